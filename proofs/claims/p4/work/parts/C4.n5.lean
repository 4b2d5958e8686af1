set_option maxHeartbeats 1600000
/-! the class: Num's high, shiftFrom, shiftBack -/
theorem sh_l : ∀ n, n < 64 → (((Int32.ofNat n).toInt64 &&& 63).toBitVec.smod 64).toNat = n := by decide +kernel
theorem sh_r : ∀ n, n < 64 → (((Int32.ofNat n).toInt64.toUInt64 &&& Int64.toUInt64 63).toBitVec % 64).toNat = n := by decide +kernel
theorem sh_e {s : Int32} (h1 : 0 ≤ s.toInt) (h2 : s.toInt < 64) : s = Int32.ofNat s.toNatClampNeg := by
  have k := cnk h1
  exact Int32.toInt_inj.mp (by rw [ofn_i (by omega)]; omega)
theorem j_shl {x : Int64} {s : Int32} (h0 : 0 ≤ x.toInt) (h1 : 0 ≤ s.toInt) (h2 : s.toInt < 64) (h3 : x.toInt.toNat * 2 ^ s.toNatClampNeg < 9223372036854775808) : (x <<< (s.toInt64 &&& 63)).toInt = ((x.toInt.toNat * 2 ^ s.toNatClampNeg : Nat) : Int) := by
  have k := cnk h1
  have q := sh_l s.toNatClampNeg (by omega)
  rw [← sh_e h1 h2] at q
  have b := l63 h0
  have bx : x.toBitVec.toNat = x.toInt.toNat := by omega
  have e : (x <<< (s.toInt64 &&& 63)).toBitVec.toNat = x.toInt.toNat * 2 ^ s.toNatClampNeg := by
    rw [Int64.toBitVec_shiftLeft, BitVec.shiftLeft_eq', q, BitVec.toNat_shiftLeft, Nat.shiftLeft_eq, bx]
    exact Nat.mod_eq_of_lt (by omega)
  have t : (x <<< (s.toInt64 &&& 63)).toInt = ((x <<< (s.toInt64 &&& 63)).toBitVec.toNat : Int) := BitVec.toInt_eq_toNat_of_lt (by rw [e]; omega)
  rw [t, e]
theorem j_shrv {x : Int64} {s : Int32} (h0 : 0 ≤ x.toInt) (h1 : 0 ≤ s.toInt) (h2 : s.toInt < 64) : ((x.toUInt64 >>> (s.toInt64.toUInt64 &&& Int64.toUInt64 63)).toInt64).toInt = ((x.toInt.toNat / 2 ^ s.toNatClampNeg : Nat) : Int) := by
  have k := cnk h1
  have q := sh_r s.toNatClampNeg (by omega)
  rw [← sh_e h1 h2] at q
  have b := l63 h0
  have bx : x.toBitVec.toNat = x.toInt.toNat := by omega
  have l := Int64.toInt_lt x
  have e : ((x.toUInt64 >>> (s.toInt64.toUInt64 &&& Int64.toUInt64 63)).toInt64).toBitVec.toNat = x.toInt.toNat / 2 ^ s.toNatClampNeg := by
    rw [UInt64.toBitVec_toInt64, UInt64.toBitVec_shiftRight, Int64.toBitVec_toUInt64, BitVec.ushiftRight_eq', q, BitVec.toNat_ushiftRight, Nat.shiftRight_eq_div_pow, bx]
  have le : x.toInt.toNat / 2 ^ s.toNatClampNeg ≤ x.toInt.toNat := Nat.div_le_self _ _
  have t : ((x.toUInt64 >>> (s.toInt64.toUInt64 &&& Int64.toUInt64 63)).toInt64).toInt = (((x.toUInt64 >>> (s.toInt64.toUInt64 &&& Int64.toUInt64 63)).toInt64).toBitVec.toNat : Int) := BitVec.toInt_eq_toNat_of_lt (by rw [e]; omega)
  rw [t, e]
theorem j_orr {a b : Int64} {k c : Nat} (ha : 0 ≤ a.toInt) (ha2 : a.toInt.toNat < 2 ^ k) (hb0 : 0 ≤ b.toInt) (hb : b.toInt.toNat = c * 2 ^ k) (hs : a.toInt + b.toInt < 9223372036854775808) : (b ||| a).toInt = b.toInt + a.toInt := by
  have ba := l63 ha
  have bb := l63 hb0
  have xa : a.toBitVec.toNat = a.toInt.toNat := by omega
  have xb : b.toBitVec.toNat = b.toInt.toNat := by omega
  have e : (b ||| a).toBitVec.toNat = b.toInt.toNat + a.toInt.toNat := by
    rw [Int64.toBitVec_or, BitVec.toNat_or, xa, xb, hb, ← Nat.shiftLeft_eq, ← Nat.shiftLeft_add_eq_or_of_lt ha2]
  have t : (b ||| a).toInt = ((b ||| a).toBitVec.toNat : Int) := BitVec.toInt_eq_toNat_of_lt (by rw [e]; omega)
  rw [t, e]
  omega
theorem j_orl {a b : Int64} {k c : Nat} (ha : 0 ≤ a.toInt) (ha2 : a.toInt.toNat < 2 ^ k) (hb0 : 0 ≤ b.toInt) (hb : b.toInt.toNat = c * 2 ^ k) (hs : a.toInt + b.toInt < 9223372036854775808) : (a ||| b).toInt = b.toInt + a.toInt := by
  rw [Int64.or_comm]
  exact j_orr ha ha2 hb0 hb hs
/-- three limbs without their lowest bits -/
theorem hi_ar {o l m t : Nat} (ho : o ≤ 30) (hl : l < 2147483648) (hm : m < 2147483648) : (l + (m * 2147483648 + t * (2147483648 * 2147483648))) / 2 ^ o = l / 2 ^ o + (m * 2 ^ (31 - o) + t * 2 ^ (62 - o)) ∧ l / 2 ^ o < 2 ^ (31 - o) ∧ l / 2 ^ o + m * 2 ^ (31 - o) < 2 ^ (62 - o) := by
  have e1 : (2147483648 : Nat) = 2 ^ o * 2 ^ (31 - o) := by
    rw [← Nat.pow_add]
    have : o + (31 - o) = 31 := by omega
    rw [this]
  have e2 : 2 ^ (62 - o) = 2 ^ (31 - o) * 2147483648 := by
    have : 62 - o = 31 - o + 31 := by omega
    rw [this, Nat.pow_add]
  have p : 0 < 2 ^ o := Nat.pow_pos (by decide)
  have a1 : m * 2147483648 + t * (2147483648 * 2147483648) = 2 ^ o * (m * 2 ^ (31 - o) + t * 2 ^ (62 - o)) := by
    rw [e2, Nat.mul_add, Nat.mul_left_comm (2 ^ o) m, ← e1, Nat.mul_left_comm (2 ^ o) t, ← Nat.mul_assoc (2 ^ o) (2 ^ (31 - o)), ← e1]
  have d1 : l / 2 ^ o < 2 ^ (31 - o) := by
    rw [Nat.div_lt_iff_lt_mul p, Nat.mul_comm, ← e1]
    exact hl
  refine ⟨by rw [a1, Nat.add_mul_div_left _ _ p], d1, ?_⟩
  have m1 := Nat.mul_le_mul_right (2 ^ (31 - o)) (Nat.le_of_lt_succ (Nat.succ_lt_succ hm) : m + 1 ≤ 2147483648)
  rw [Nat.add_mul] at m1
  rw [e2, Nat.mul_comm (2 ^ (31 - o))]
  omega
theorem hi_v {κ : zS} {x c s : Nat} (I : nuI κ x c) (h : nuN κ x < 2 ^ (s + 62)) : nuN κ x / 2 ^ s = ((uP κ x (s / 31)).toNatClampNeg + ((uP κ x (s / 31 + 1)).toNatClampNeg * 2147483648 + (uP κ x (s / 31 + 2)).toNatClampNeg * (2147483648 * 2147483648))) / 2 ^ (s % 31) := by
  have kl : nuK κ x ≤ s / 31 + 3 := by
    refine Nat.le_of_not_lt (fun l => ?_)
    have g := nuN_ge I (by omega)
    have g2 := Nat.pow_le_pow_right (n := 2147483648) (by decide) (show s / 31 + 3 ≤ nuK κ x - 1 by omega)
    rw [p31_2] at g2
    have g3 := Nat.pow_le_pow_right (n := 2) (by decide) (show s + 62 ≤ 31 * (s / 31 + 3) by omega)
    omega
  have e : nuN κ x = uV (uP κ x) (s / 31) + ((uP κ x (s / 31)).toNatClampNeg + ((uP κ x (s / 31 + 1)).toNatClampNeg * 2147483648 + (uP κ x (s / 31 + 2)).toNatClampNeg * (2147483648 * 2147483648))) * 2147483648 ^ (s / 31) := by
    rw [← uP_v kl]
    show uV _ (s / 31) + _ * 2147483648 ^ (s / 31) + _ * 2147483648 ^ (s / 31 + 1) + _ * 2147483648 ^ (s / 31 + 1 + 1) = _
    rw [p31_s (n := s / 31 + 1), p31_s (n := s / 31)]
    simp only [Nat.add_mul, Nat.mul_assoc]
    omega
  have l := uV_lt (f := uP κ x) (n := s / 31)
  have p : 0 < 2147483648 ^ (s / 31) := Nat.pow_pos (by decide)
  have es : 2 ^ s = 2147483648 ^ (s / 31) * 2 ^ (s % 31) := by
    rw [p31_2, ← Nat.pow_add]
    congr 1
    omega
  rw [es, ← Nat.div_div_eq_div_mul]
  congr 1
  rw [e, Nat.mul_comm, Nat.add_mul_div_left _ _ p, Nat.div_eq_of_lt l, Nat.zero_add]
theorem Nu_high_c {C : zC} {n0 : Nat} {a0 : Nat} {a1 : Int32} {κ : zS} {Q : Int64 → zS → Prop} (W : zW C n0 κ) (Ta0 : zT κ a0 = 8) (c9 : Nat) (hp : nuI κ a0 c9 ∧ (0 ≤ a1.toInt ∧ a1.toInt ≤ 1000000000) ∧ nuN κ a0 < 2 ^ (a1.toInt.toNat + 62)) (h : ∀ (v : Int64), (v.toInt = ((nuN κ a0 / 2 ^ a1.toInt.toNat : Nat) : Int)) → Q v κ) : zRun C 0 mNu_high [.ref a0, .int a1] κ (oJ Q noX) := by
  refine Nu_high_run W Ta0 ?_
  replace W := W.lo (Nat.le_trans W.1.2.1 W.1.2.2) (Nat.le_refl (zn κ))
  unfold w_Nu_high_0
  obtain ⟨I0, p1, p2⟩ := hp
  have k0 := nuK_i I0.1
  have lb := I0.1.1
  have t31 : (31 : Int32).toInt = 31 := rfl
  have t62 : (62 : Int32).toInt = 62 := rfl
  have g : ∀ j, (uP κ a0 j).toInt64.toInt = ((uP κ a0 j).toNatClampNeg : Int) ∧ (uP κ a0 j).toNatClampNeg < 2147483648 := fun j => by
    have e : (uP κ a0 j).toInt64.toInt = (uP κ a0 j).toInt := Int32.toInt_toInt64 _
    have k := cnk (uP_0 (j := j) I0.1)
    have l := lim31 (uP κ a0 j)
    omega
  have hj95 : ∀ (l0 : Nat) (l3 : Int32) (l4 : Int64) (l6 : Int64) (s0 : Int64) (τ : zS), zW C (zn κ) τ → zT τ l0 = 8 → (κ = τ ∧ a0 = l0 ∧ l3.toInt = ((a1.toInt.toNat % 31 : Nat) : Int) ∧ l4 = (uP κ a0 (a1.toInt.toNat / 31)).toInt64 ∧ l6 = (uP κ a0 (a1.toInt.toNat / 31 + 1)).toInt64 ∧ s0 = (uP κ a0 (a1.toInt.toNat / 31 + 2)).toInt64) → w_Nu_high_95 C (zn κ) Q  l0 l3 l4 l6 s0 τ := by
    rintro _ y95_3 y95_4 y95_6 y95_s0 _ W95 T95_0 ⟨rfl, rfl, j95⟩
    unfold w_Nu_high_95
    refine h _ ?_
    · obtain ⟨e3, rfl, rfl, rfl⟩ := j95
      have g0 := g (a1.toInt.toNat / 31)
      have g1 := g (a1.toInt.toNat / 31 + 1)
      have g2 := g (a1.toInt.toNat / 31 + 2)
      have hv := hi_v I0 p2
      have ar := hi_ar (o := a1.toInt.toNat % 31) (t := (uP κ a0 (a1.toInt.toNat / 31 + 2)).toNatClampNeg) (by omega) g0.2 g1.2
      have vl : nuN κ a0 / 2 ^ a1.toInt.toNat < 4611686018427387904 := by
        rw [Nat.div_lt_iff_lt_mul (Nat.pow_pos (by decide))]
        rw [Nat.pow_add, Nat.mul_comm] at p2
        exact p2
      rw [hv, ar.1] at vl
      have s3 := cnk (x := y95_3) (by omega)
      have ko : y95_3.toNatClampNeg = a1.toInt.toNat % 31 := by omega
      have d1 : ((31 : Int32) - y95_3).toInt = 31 - y95_3.toInt := by rw [sub_i (by rw [t31]; omega) (by rw [t31]; omega), t31]
      have d2 : ((62 : Int32) - y95_3).toInt = 62 - y95_3.toInt := by rw [sub_i (by rw [t62]; omega) (by rw [t62]; omega), t62]
      have k1 := cnk (x := (31 : Int32) - y95_3) (by omega)
      have k2 := cnk (x := (62 : Int32) - y95_3) (by omega)
      have ko1 : ((31 : Int32) - y95_3).toNatClampNeg = 31 - a1.toInt.toNat % 31 := by omega
      have ko2 : ((62 : Int32) - y95_3).toNatClampNeg = 62 - a1.toInt.toNat % 31 := by omega
      have n0 : (uP κ a0 (a1.toInt.toNat / 31)).toInt64.toInt.toNat = (uP κ a0 (a1.toInt.toNat / 31)).toNatClampNeg := by omega
      have n1 : (uP κ a0 (a1.toInt.toNat / 31 + 1)).toInt64.toInt.toNat = (uP κ a0 (a1.toInt.toNat / 31 + 1)).toNatClampNeg := by omega
      have n2 : (uP κ a0 (a1.toInt.toNat / 31 + 2)).toInt64.toInt.toNat = (uP κ a0 (a1.toInt.toNat / 31 + 2)).toNatClampNeg := by omega
      have b0 := j_shrv (x := (uP κ a0 (a1.toInt.toNat / 31)).toInt64) (s := y95_3) (by omega) (by omega) (by omega)
      rw [n0, ko] at b0
      generalize hz9 : (uP κ a0 (a1.toInt.toNat / 31)).toNatClampNeg / 2 ^ (a1.toInt.toNat % 31) = z9 at ar vl b0
      have b1 := j_shl (x := (uP κ a0 (a1.toInt.toNat / 31 + 1)).toInt64) (s := (31 : Int32) - y95_3) (by omega) (by omega) (by omega) (by rw [n1, ko1]; omega)
      rw [n1, ko1] at b1
      have b2 := j_shl (x := (uP κ a0 (a1.toInt.toNat / 31 + 2)).toInt64) (s := (62 : Int32) - y95_3) (by omega) (by omega) (by omega) (by rw [n2, ko2]; omega)
      rw [n2, ko2] at b2
      have c1 := j_orl (k := 31 - a1.toInt.toNat % 31) (c := (uP κ a0 (a1.toInt.toNat / 31 + 1)).toNatClampNeg) (a := ((uP κ a0 (a1.toInt.toNat / 31)).toInt64.toUInt64 >>> (y95_3.toInt64.toUInt64 &&& Int64.toUInt64 63)).toInt64) (b := (uP κ a0 (a1.toInt.toNat / 31 + 1)).toInt64 <<< (((31 : Int32) - y95_3).toInt64 &&& 63)) (by omega) (by rw [b0]; exact ar.2.1) (by omega) (by rw [b1]; rfl) (by rw [b0, b1]; omega)
      have c2 := j_orl (k := 62 - a1.toInt.toNat % 31) (c := (uP κ a0 (a1.toInt.toNat / 31 + 2)).toNatClampNeg) (a := ((uP κ a0 (a1.toInt.toNat / 31)).toInt64.toUInt64 >>> (y95_3.toInt64.toUInt64 &&& Int64.toUInt64 63)).toInt64 ||| (uP κ a0 (a1.toInt.toNat / 31 + 1)).toInt64 <<< (((31 : Int32) - y95_3).toInt64 &&& 63)) (b := (uP κ a0 (a1.toInt.toNat / 31 + 2)).toInt64 <<< (((62 : Int32) - y95_3).toInt64 &&& 63)) (by rw [c1]; omega) (by rw [c1, b0, b1]; omega) (by omega) (by rw [b2]; rfl) (by rw [c1, b0, b1, b2]; omega)
      rw [c2, c1, b0, b1, b2, hv, ar.1]
      omega
  have hj64 : ∀ (l0 : Nat) (l2 : Int32) (l3 : Int32) (l4 : Int64) (s0 : Int64) (τ : zS), zW C (zn κ) τ → zT τ l0 = 8 → (κ = τ ∧ a0 = l0 ∧ (l2.toInt = ((a1.toInt.toNat / 31 : Nat) : Int) ∧ l3.toInt = ((a1.toInt.toNat % 31 : Nat) : Int)) ∧ l4 = (uP κ a0 (a1.toInt.toNat / 31)).toInt64 ∧ s0 = (uP κ a0 (a1.toInt.toNat / 31 + 1)).toInt64) → w_Nu_high_64 C (zn κ) Q  l0 l2 l3 l4 s0 τ := by
    rintro _ y64_2 y64_3 y64_4 y64_s0 _ W64 T64_0 ⟨rfl, rfl, j64⟩
    unfold w_Nu_high_64
    obtain ⟨⟨e2, e3⟩, rfl, rfl⟩ := j64
    have t2 : (2 : Int32).toInt = 2 := rfl
    have ea : (y64_2 + 2).toInt = y64_2.toInt + 2 := by rw [add_i (by rw [t2]; omega) (by rw [t2]; omega), t2]
    have ka := cnk (x := y64_2 + 2) (by omega)
    have kn : (y64_2 + 2).toNatClampNeg = a1.toInt.toNat / 31 + 2 := by omega
    have nul : ¬ a1.toInt.toNat / 31 + 2 < nuK κ a0 → (0 : Int64) = (uP κ a0 (a1.toInt.toNat / 31 + 2)).toInt64 := fun z => by
      have : uP κ a0 (a1.toInt.toNat / 31 + 2) = 0 := if_neg z
      rw [this]
      rfl
    refine ⟨fun c1 => ?_, fun c1 => ?_⟩
    · skip
      refine hj95 _ _ _ _ _ _ W64 ?_ ?_
      · exact T64_0  -- t2
      · rw [lti, t0i] at c1
        exact absurd c1 (by omega)
    · skip
      refine ⟨fun c2 => ?_, fun c2 => ?_⟩
      · skip
        refine hj95 _ _ _ _ _ _ W64 ?_ ?_
        · exact T64_0  -- t4
        · rw [lei] at c2
          exact ⟨rfl, rfl, e3, rfl, rfl, nul (by omega)⟩
      · skip
        rw [lei] at c2
        refine ⟨?_, ?_⟩
        · rw [inb_iff]; omega  -- b6
        refine hj95 _ _ _ _ _ _ W64 ?_ ?_
        · exact T64_0  -- t7
        · refine ⟨rfl, rfl, e3, rfl, rfl, ?_⟩
          rw [kn]
          have : uP κ a0 (a1.toInt.toNat / 31 + 2) = zA κ (zR κ nuLimbs a0) (a1.toInt.toNat / 31 + 2) := if_pos (by omega)
          rw [this]
  have hj33 : ∀ (l0 : Nat) (l2 : Int32) (l3 : Int32) (s0 : Int64) (τ : zS), zW C (zn κ) τ → zT τ l0 = 8 → (κ = τ ∧ a0 = l0 ∧ (l2.toInt = ((a1.toInt.toNat / 31 : Nat) : Int) ∧ l3.toInt = ((a1.toInt.toNat % 31 : Nat) : Int)) ∧ s0 = (uP κ a0 (a1.toInt.toNat / 31)).toInt64) → w_Nu_high_33 C (zn κ) Q  l0 l2 l3 s0 τ := by
    rintro _ y33_2 y33_3 y33_s0 _ W33 T33_0 ⟨rfl, rfl, j33⟩
    unfold w_Nu_high_33
    obtain ⟨⟨e2, e3⟩, rfl⟩ := j33
    have ea : (y33_2 + 1).toInt = y33_2.toInt + 1 := by rw [add_i (by rw [t1i]; omega) (by rw [t1i]; omega), t1i]
    have ka := cnk (x := y33_2 + 1) (by omega)
    have kn : (y33_2 + 1).toNatClampNeg = a1.toInt.toNat / 31 + 1 := by omega
    have nul : ¬ a1.toInt.toNat / 31 + 1 < nuK κ a0 → (0 : Int64) = (uP κ a0 (a1.toInt.toNat / 31 + 1)).toInt64 := fun z => by
      have : uP κ a0 (a1.toInt.toNat / 31 + 1) = 0 := if_neg z
      rw [this]
      rfl
    refine ⟨fun c3 => ?_, fun c3 => ?_⟩
    · skip
      refine hj64 _ _ _ _ _ _ W33 ?_ ?_
      · exact T33_0  -- t9
      · rw [lti, t0i] at c3
        exact absurd c3 (by omega)
    · skip
      refine ⟨fun c4 => ?_, fun c4 => ?_⟩
      · skip
        refine hj64 _ _ _ _ _ _ W33 ?_ ?_
        · exact T33_0  -- t11
        · rw [lei] at c4
          exact ⟨rfl, rfl, ⟨e2, e3⟩, rfl, nul (by omega)⟩
      · skip
        rw [lei] at c4
        refine ⟨?_, ?_⟩
        · rw [inb_iff]; omega  -- b13
        refine hj64 _ _ _ _ _ _ W33 ?_ ?_
        · exact T33_0  -- t14
        · refine ⟨rfl, rfl, ⟨e2, e3⟩, rfl, ?_⟩
          rw [kn]
          have : uP κ a0 (a1.toInt.toNat / 31 + 1) = zA κ (zR κ nuLimbs a0) (a1.toInt.toNat / 31 + 1) := if_pos (by omega)
          rw [this]
  refine ⟨?_, ?_⟩
  · decide  -- b16
  intro x5 hx5
  have e5 : x5.toInt = ((a1.toInt.toNat / 31 : Nat) : Int) := by
    rw [hx5, div_i p1.1 (by decide), t31]
    omega
  have k5 := cnk (x := x5) (by omega)
  have kn : x5.toNatClampNeg = a1.toInt.toNat / 31 := by omega
  refine ⟨?_, ?_⟩
  · decide  -- b17
  intro x6 hx6
  have e6 : x6.toInt = ((a1.toInt.toNat % 31 : Nat) : Int) := by
    have em : (a1 / 31 * 31).toInt = x5.toInt * 31 := by rw [← hx5, mul_i (by rw [t31]; omega) (by rw [t31]; omega), t31]
    rw [hx6, sub_i (by rw [em]; omega) (by rw [em]; omega), em]
    omega
  have nul : ¬ a1.toInt.toNat / 31 < nuK κ a0 → (0 : Int64) = (uP κ a0 (a1.toInt.toNat / 31)).toInt64 := fun z => by
    have : uP κ a0 (a1.toInt.toNat / 31) = 0 := if_neg z
    rw [this]
    rfl
  refine ⟨fun c7 => ?_, fun c7 => ?_⟩
  · skip
    refine hj33 _ _ _ _ _ W ?_ ?_
    · exact Ta0  -- t18
    · rw [lti, t0i] at c7
      exact absurd c7 (by omega)
  · skip
    refine ⟨fun c8 => ?_, fun c8 => ?_⟩
    · skip
      refine hj33 _ _ _ _ _ W ?_ ?_
      · exact Ta0  -- t20
      · rw [lei] at c8
        exact ⟨rfl, rfl, ⟨e5, e6⟩, nul (by omega)⟩
    · skip
      rw [lei] at c8
      refine ⟨?_, ?_⟩
      · rw [inb_iff]; omega  -- b22
      refine hj33 _ _ _ _ _ W ?_ ?_
      · exact Ta0  -- t23
      · refine ⟨rfl, rfl, ⟨e5, e6⟩, ?_⟩
        rw [kn]
        have : uP κ a0 (a1.toInt.toNat / 31) = zA κ (zR κ nuLimbs a0) (a1.toInt.toNat / 31) := if_pos (by omega)
        rw [this]

theorem nu_c2 {o n : Nat} (h : 3 * o ≤ 2 * n) (h2 : o + 2 ≤ n) : n + wS 800 o ≤ wS 800 n ∧ 4 + wC 800 o ≤ wC 800 n := by
  have e1 : ∀ k, wS 800 k = 3 * k + 2 := fun k => rfl
  have e2 : ∀ k, wC 800 k = 2 * k + 8 := fun k => rfl
  rw [e1, e1, e2, e2]
  omega
/-- a number moved up, limb by limb -/
def sfI (L X : Nat → Int32) (q i c : Nat) : Prop := uV X i + c * 2147483648 ^ i = uV L i * q ∧ c < q ∧ ∀ j, j < i → 0 ≤ (X j).toInt
theorem sfI_s {L X X' : Nat → Int32} {q i c : Nat} {x : Int32} (h : sfI L X q i c) (ex : x.toInt = (((L i).toNatClampNeg * q + c : Nat) : Int) % 2147483648) (e : X' = upd X i x) : sfI L X' q (i + 1) (((L i).toNatClampNeg * q + c) / 2147483648) := by
  obtain ⟨h1, h2, h3⟩ := h
  have l := lim31 (L i)
  have kx := cnk (x := x) (by omega)
  have mi : X' i = x := by rw [e]; exact if_pos rfl
  have mj : ∀ j, j ≠ i → X' j = X j := fun j hj => by rw [e]; exact if_neg hj
  refine ⟨?_, ?_, fun j hj => ?_⟩
  · show uV X' i + (X' i).toNatClampNeg * 2147483648 ^ i + _ = (uV L i + (L i).toNatClampNeg * 2147483648 ^ i) * q
    rw [uV_e (g := X) (fun j hj => mj j (Nat.ne_of_lt hj)), mi, p31_s]
    have e9 : x.toNatClampNeg = ((L i).toNatClampNeg * q + c) % 2147483648 := by omega
    rw [e9]
    exact ar31 h1 rfl
  · refine Nat.div_lt_of_lt_mul ?_
    have m := Nat.mul_le_mul_right q (Nat.le_of_lt_succ (Nat.succ_lt_succ l) : (L i).toNatClampNeg + 1 ≤ 2147483648)
    rw [Nat.add_mul] at m
    omega
  · by_cases z : j = i
    · rw [z, mi]; omega
    · rw [mj j z]; exact h3 j (by omega)
theorem Nu_shiftFrom_c {C : zC} {n0 : Nat} {a0 : Nat} {a1 : Nat} {a2 : Int32} {κ : zS} {Q : zS → Prop} (W : zW C n0 κ) (Ta0 : zT κ a0 = 8) (Ta1 : zT κ a1 = 8) (c9 d9 : Nat) (hp : (2 ≤ (zN κ (zR κ nuLimbs a0)) ∧ (zN κ (zR κ nuLimbs a0)) ≤ c9) ∧ nuB κ a1 d9 ∧ a0 ≠ a1 ∧ (0 ≤ a2.toInt ∧ a2.toInt ≤ 30) ∧ nuK κ a1 + nuK κ a1 / 2 + 2 ≤ c9 ∧ c9 ≤ 30000000) (h : ∀ (κ' : zS), (zF (nuF a0) κ κ' ∧ nuB κ' a0 c9 ∧ nuK κ' a0 = nuK κ a1 + 1 ∧ nuN κ' a0 = nuN κ a1 * 2 ^ a2.toInt.toNat) → Q κ') : zRun C 0 mNu_shiftFrom [.ref a0, .ref a1, .int a2] κ (oV Q noX) := by
  refine Nu_shiftFrom_run W Ta0 Ta1 ?_
  replace W := W.lo (Nat.le_trans W.1.2.1 W.1.2.2) (Nat.le_refl (zn κ))
  unfold w_Nu_shiftFrom_0
  obtain ⟨p1, p2, p3, p4, p5, p6⟩ := hp
  have k := nuK_i p2
  have kd : nuK κ a1 = (zI κ nuLength a1).toNatClampNeg := rfl
  have lb := p2.1
  have nF : ∀ f, ¬ nuF a0 f a1 := fun f z => p3 z.1.symm
  have q1 : 0 < 2 ^ a2.toInt.toNat := Nat.pow_pos (by decide)
  have q2 : 2 ^ a2.toInt.toNat ≤ 1073741824 := Nat.pow_le_pow_right (n := 2) (j := 30) (by decide) (by omega)
  have ks := cnk (x := a2) (by omega)
  have es : a2.toNatClampNeg = a2.toInt.toNat := by omega
  have hj33 : ∀ (l0 : Nat) (l1 : Nat) (l2 : Int32) (τ : zS), zW C (zn κ) τ → zT τ l0 = 8 → zT τ l1 = 8 → (a0 = l0 ∧ a1 = l1 ∧ a2 = l2 ∧ zF (nuF a0) κ τ ∧ zI τ = zI κ ∧ (2 ≤ (zN τ (zR τ nuLimbs a0)) ∧ (zN τ (zR τ nuLimbs a0)) ≤ c9) ∧ nuK κ a1 + 1 ≤ (zN τ (zR τ nuLimbs a0))) → w_Nu_shiftFrom_33 C (zn κ) Q  l0 l1 l2 τ := by
    rintro _ _ _ τ33 W33 T33_0 T33_1 ⟨rfl, rfl, rfl, j33⟩
    unfold w_Nu_shiftFrom_33
    unfold w_Nu_shiftFrom_38
    refine ⟨fun n l0 l1 l2 l3 l4 τ => n = ((zI κ nuLength a1).toInt - l4.toInt).toNat ∧ (a0 = l0 ∧ a1 = l1 ∧ a2 = l2 ∧ nuE τ33 τ a0 ∧ (0 ≤ l4.toInt ∧ l4.toInt ≤ (zI κ nuLength a1).toInt) ∧ 0 ≤ l3.toInt ∧ sfI (zA κ (zR κ nuLimbs a1)) (zA τ (zR τ33 nuLimbs a0)) (2 ^ a2.toInt.toNat) l4.toNatClampNeg l3.toInt.toNat), ⟨_, rfl, ?_⟩, ?_⟩
    · exact ⟨rfl, rfl, rfl, nuE.rf, ⟨by decide, by rw [t0i]; omega⟩, by decide, by
        show 0 + 0 * _ = 0 * _
        omega, q1, fun j hj => absurd hj (Nat.not_lt_zero _)⟩
    rintro n38 _ _ _ x38_3 x38_4 κ38 W38 T38_0 T38_1 ⟨hn38, rfl, rfl, rfl, i38⟩
    obtain ⟨E38, k38, c38, J38⟩ := i38
    have rs := E38.2.1
    have is : zI κ38 = zI κ := E38.2.2.1.trans j33.2.1
    have ns := E38.2.2.2
    have u := nu_z W Ta1 (j33.1.tr E38.1) (nF nuLimbs) (nF nuLength)
    have kn := cnk k38.1
    have lz := j33.2.2
    refine ⟨fun c1 => ?_, fun c1 => ?_⟩
    · skip
      refine ⟨?_, ?_⟩
      · rw [is, rs, ns, inb_iff]; omega  -- b2
      intro κ_2 hκ_2
      intro W3
      intro κ_4 hκ_4
      intro W5
      refine h _ ?_
      · rw [is, lei] at c1
        have kk : x38_4.toNatClampNeg = nuK κ a1 := by omega
        rw [kk] at J38
        have jb := J38.2.1
        have i2 : zI κ_2 nuLength a1 = zI κ nuLength a1 := by rw [hκ_2, ← is]; rfl
        have e1 := cn1 (x := zI κ nuLength a1) lb.1 (by omega)
        rw [i2] at hκ_4
        rw [is] at hκ_2
        have fin := nu_fin (m := nuK κ a1) (c := c9) W38 T38_0 hκ_2 hκ_4 (by rw [e1.2]; omega) (by rw [rs, ns]; omega) (by rw [rs, ns]; omega) c38 (fun j hj => by rw [rs]; exact J38.2.2 j hj)
        have kc := cnk c38
        refine ⟨(j33.1.tr E38.1).tr fin.1, fin.2.1, ?_, ?_⟩
        · have : zI κ_4 nuLength a0 = zI κ nuLength a1 + 1 := by rw [hκ_4]; exact if_pos ⟨rfl, rfl⟩
          show (zI κ_4 nuLength a0).toNatClampNeg = _
          rw [this, e1.1]
          rfl
        · have e9 : x38_3.toNatClampNeg = x38_3.toInt.toNat := by omega
          rw [fin.2.2, rs, e9, J38.1]
          rfl
    · skip
      rw [is, lei] at c1
      have lj := p2.2.2 x38_4.toNatClampNeg (by omega)
      have hj := ihi (zA κ (zR κ nuLimbs a1) x38_4.toNatClampNeg)
      have kl := cnk lj
      have cb := J38.2.1
      have m1 : (zA κ (zR κ nuLimbs a1) x38_4.toNatClampNeg).toNatClampNeg * 2 ^ a2.toInt.toNat ≤ 2147483647 * 1073741824 := Nat.mul_le_mul (by omega) q2
      have e5 := cn1 (x := x38_4) k38.1 (by omega)
      refine ⟨?_, ?_⟩
      · rw [u.2.1, u.2.2.2, inb_iff]; omega  -- b4
      intro x6 hx6
      rw [u.2.1, u.2.2.1] at hx6
      have b1 : (zA κ (zR κ nuLimbs a1) x38_4.toNatClampNeg).toInt64.toInt = (zA κ (zR κ nuLimbs a1) x38_4.toNatClampNeg).toInt := Int32.toInt_toInt64 _
      have b3 : x38_3.toInt64.toInt = x38_3.toInt := Int32.toInt_toInt64 _
      have n1 : (zA κ (zR κ nuLimbs a1) x38_4.toNatClampNeg).toInt64.toInt.toNat = (zA κ (zR κ nuLimbs a1) x38_4.toNatClampNeg).toNatClampNeg := by omega
      have s1 := j_shl (x := (zA κ (zR κ nuLimbs a1) x38_4.toNatClampNeg).toInt64) (s := a2) (by omega) (by omega) (by omega) (by rw [n1, es]; omega)
      rw [n1, es] at s1
      have s2 := j_orr (k := a2.toInt.toNat) (c := (zA κ (zR κ nuLimbs a1) x38_4.toNatClampNeg).toNatClampNeg) (a := x38_3.toInt64) (b := (zA κ (zR κ nuLimbs a1) x38_4.toNatClampNeg).toInt64 <<< (a2.toInt64 &&& 63)) (by omega) (by omega) (by omega) (by rw [s1]; rfl) (by rw [s1]; omega)
      rw [← hx6, s1, b3] at s2
      have e6 : x6.toInt = (((zA κ (zR κ nuLimbs a1) x38_4.toNatClampNeg).toNatClampNeg * 2 ^ a2.toInt.toNat + x38_3.toInt.toNat : Nat) : Int) := by omega
      have f1 := (j_and (x := x6)).2
      have f2 := j_shr (x := x6) (by omega)
      have f3 := j_i32 (x := (x6.toUInt64 >>> ((31 : Int32).toInt64.toUInt64 &&& Int64.toUInt64 63)).toInt64) (by rw [f2]; omega) (by rw [f2]; omega)
      refine ⟨?_, ?_⟩
      · rw [rs, ns, inb_iff]; omega  -- b5
      intro κ_7 hκ_7
      intro W8
      intro x9 hx9
      intro x10 hx10
      refine ⟨_, ?_, rfl, ?_⟩
      · rw [hn38, hx10, e5.2]; omega  -- d6
      · rw [f2, ← hx9] at f3
        obtain ⟨u1, u2, u3⟩ := nu_u W38 T38_0 hκ_7
        rw [rs] at u2
        have s := sfI_s (x := (x6 &&& 2147483647).toInt32) J38 (by rw [f1, e6]) u2
        have ec : x9.toInt.toNat = ((zA κ (zR κ nuLimbs a1) x38_4.toNatClampNeg).toNatClampNeg * 2 ^ a2.toInt.toNat + x38_3.toInt.toNat) / 2147483648 := by omega
        rw [← ec] at s
        rw [hx10]
        exact ⟨rfl, rfl, rfl, E38.tr u1, by rw [e5.2]; omega, by omega, by rw [e5.1]; exact s⟩
  have e1 := cn1 (x := zI κ nuLength a1) lb.1 (by omega)
  have oN := W.n (ty_nuLimbs W Ta0)
  refine ⟨fun c11 => ?_, fun c11 => ?_⟩
  · skip
    refine hj33 _ _ _ _ W ?_ ?_ ?_
    · exact Ta0  -- t8
    · exact Ta1  -- t9
    · rw [lei, ofn_i oN, e1.2] at c11
      exact ⟨rfl, rfl, rfl, zF.rf, rfl, p1, by omega⟩
  · skip
    refine ⟨?_, ?_⟩
    · decide  -- b11
    rw [lei, ofn_i oN, e1.2] at c11
    have t2 : (2 : Int32).toInt = 2 := rfl
    have d := div_i (y := 2) lb.1 (by decide)
    rw [t2] at d
    have e2 : (zI κ nuLength a1 + zI κ nuLength a1 / 2).toInt = (zI κ nuLength a1).toInt + (zI κ nuLength a1).toInt / 2 := by rw [add_i (by rw [d]; omega) (by rw [d]; omega), d]
    have hf : (zI κ nuLength a1 + zI κ nuLength a1 / 2 + 2).toInt = (zI κ nuLength a1).toInt + (zI κ nuLength a1).toInt / 2 + 2 := by rw [add_i (by rw [e2, t2]; omega) (by rw [e2, t2]; omega), e2, t2]
    have kx := cnk (x := zI κ nuLength a1 + zI κ nuLength a1 / 2 + 2) (by omega)
    refine ⟨?_, ?_⟩
    · exact ⟨by rw [lei, t0i]; omega, by omega⟩  -- b12
    intro κ_12 hκ_12
    intro W13
    refine ⟨?_, ?_⟩
    · rw [hκ_12]; exact if_pos rfl  -- b13
    intro κ_14 hκ_14
    intro W15
    refine hj33 _ _ _ _ W15 ?_ ?_ ?_
    · have k1 := nu_c2 (o := zN κ (zR κ nuLimbs a0)) (n := (zI κ nuLength a1 + zI κ nuLength a1 / 2 + 2).toNatClampNeg) (by omega) (by omega)
      exact (we_gr W (show zr nuLimbs = some 20 by decide +kernel) (by decide) Ta0 hκ_12 hκ_14 k1.1 k1.2).1.t Ta0 (by decide)
    · have k1 := nu_c2 (o := zN κ (zR κ nuLimbs a0)) (n := (zI κ nuLength a1 + zI κ nuLength a1 / 2 + 2).toNatClampNeg) (by omega) (by omega)
      exact (we_gr W (show zr nuLimbs = some 20 by decide +kernel) (by decide) Ta0 hκ_12 hκ_14 k1.1 k1.2).1.t Ta1 (by decide)
    · have k1 := nu_c2 (o := zN κ (zR κ nuLimbs a0)) (n := (zI κ nuLength a1 + zI κ nuLength a1 / 2 + 2).toNatClampNeg) (by omega) (by omega)
      obtain ⟨F1, u1, u2, u3, u4, u5⟩ := we_gr W (show zr nuLimbs = some 20 by decide +kernel) (by decide) Ta0 hκ_12 hκ_14 k1.1 k1.2
      refine ⟨rfl, rfl, rfl, F1.mono (fun f x z => ⟨z.2, Or.inl z.1⟩), u1, ?_, ?_⟩
      · rw [u3, u4]; omega
      · rw [u3, u4]; omega

theorem sd_ar {a x q r : Nat} (hq : 0 < q) (hB : q * r = 2147483648) (hx : x < 2147483648) : q * ((a * 2147483648 + x) / q % 2147483648) + x % q = a % q * 2147483648 + x := by
  have e1 : a * 2147483648 + x = x + q * (a * r) := by rw [← hB, Nat.mul_left_comm]; omega
  rw [e1, Nat.add_mul_div_left _ _ hq]
  have m := Nat.div_add_mod a q
  have d := Nat.div_add_mod x q
  have lt := Nat.mod_lt a hq
  have lx : x / q < r := by
    rw [Nat.div_lt_iff_lt_mul hq, Nat.mul_comm, hB]
    exact hx
  have e2 : a * r = a / q * 2147483648 + a % q * r := by
    have : a * r = (q * (a / q) + a % q) * r := by rw [m]
    rw [this, Nat.add_mul, Nat.mul_comm q, Nat.mul_assoc, hB]
  have e3 : (x / q + a * r) % 2147483648 = x / q + a % q * r := by
    rw [e2]
    have b1 := Nat.mul_le_mul_right r lt
    rw [Nat.succ_mul, hB] at b1
    have : x / q + (a / q * 2147483648 + a % q * r) = x / q + a % q * r + a / q * 2147483648 := by omega
    rw [this, Nat.add_mul_mod_self_right]
    exact Nat.mod_eq_of_lt (by omega)
  rw [e3, Nat.mul_add, Nat.mul_left_comm q, hB]
  omega
/-- a number moved down, limb by limb -/
def sdI (X Y : Nat → Int32) (q m i : Nat) : Prop := q * uV Y i + (X 0).toNatClampNeg % q = uV X i + (if i < m then (X i).toNatClampNeg % q else 0) * 2147483648 ^ i ∧ (∀ j, j < m → 0 ≤ (Y j).toInt) ∧ ∀ j, i ≤ j → Y j = X j
theorem sdI_s {X Y Y' : Nat → Int32} {q r m i : Nat} {x : Int32} (h : sdI X Y q m i) (hq : 0 < q) (hB : q * r = 2147483648) (hi : i < m) (ex : x.toInt = (((if i + 1 < m then (X (i + 1)).toNatClampNeg else 0) * 2147483648 + (X i).toNatClampNeg) / q : Nat) % 2147483648) (e : Y' = upd Y i x) : sdI X Y' q m (i + 1) := by
  obtain ⟨h1, h2, h3⟩ := h
  have l := lim31 (X i)
  have kx := cnk (x := x) (by omega)
  have mi : Y' i = x := by rw [e]; exact if_pos rfl
  have mj : ∀ j, j ≠ i → Y' j = Y j := fun j hj => by rw [e]; exact if_neg hj
  have ar := sd_ar (a := if i + 1 < m then (X (i + 1)).toNatClampNeg else 0) hq hB l
  have e9 : x.toNatClampNeg = ((if i + 1 < m then (X (i + 1)).toNatClampNeg else 0) * 2147483648 + (X i).toNatClampNeg) / q % 2147483648 := by omega
  rw [← e9] at ar
  refine ⟨?_, fun j hj => ?_, fun j hj => ?_⟩
  · show q * (uV Y' i + (Y' i).toNatClampNeg * 2147483648 ^ i) + _ = uV X i + (X i).toNatClampNeg * 2147483648 ^ i + _
    rw [uV_e (g := Y) (fun j hj => mj j (Nat.ne_of_lt hj)), mi, p31_s, Nat.mul_add, ← Nat.mul_assoc, ← Nat.mul_assoc]
    rw [if_pos hi] at h1
    have ar2 : (q * x.toNatClampNeg + (X i).toNatClampNeg % q) * 2147483648 ^ i = ((if i + 1 < m then (X (i + 1)).toNatClampNeg else 0) % q * 2147483648 + (X i).toNatClampNeg) * 2147483648 ^ i := by rw [ar]
    rw [Nat.add_mul, Nat.add_mul] at ar2
    have e8 : (if i + 1 < m then (X (i + 1)).toNatClampNeg else 0) % q = if i + 1 < m then (X (i + 1)).toNatClampNeg % q else 0 := by
      split
      · rfl
      · exact Nat.zero_mod _
    rw [e8] at ar2
    omega
  · by_cases z : j = i
    · rw [z, mi]; omega
    · rw [mj j z]; exact h2 j hj
  · rw [mj j (by omega)]; exact h3 j (by omega)
theorem sdI_e {X Y : Nat → Int32} {q m : Nat} (hq : 0 < q) (h : sdI X Y q m m) : uV Y m = uV X m / q := by
  obtain ⟨h1, _, _⟩ := h
  rw [if_neg (Nat.lt_irrefl _), Nat.zero_mul, Nat.add_zero] at h1
  have l := Nat.mod_lt (X 0).toNatClampNeg hq
  rw [← h1, Nat.mul_comm, Nat.add_comm, Nat.add_mul_div_right _ _ hq, Nat.div_eq_of_lt l, Nat.zero_add]
theorem Nu_shiftBack_c {C : zC} {n0 : Nat} {a0 : Nat} {a1 : Int32} {a2 : Int32} {κ : zS} {Q : zS → Prop} (W : zW C n0 κ) (Ta0 : zT κ a0 = 8) (c9 : Nat) (hp : (1 ≤ a1.toInt ∧ a1.toInt ≤ (zN κ (zR κ nuLimbs a0))) ∧ (2 ≤ (zN κ (zR κ nuLimbs a0)) ∧ (zN κ (zR κ nuLimbs a0)) ≤ c9) ∧ (0 ≤ a2.toInt ∧ a2.toInt ≤ 30) ∧ ∀ i : Nat, (i : Int) < a1.toInt → 0 ≤ (zA κ (zR κ nuLimbs a0) i).toInt) (h : ∀ (κ' : zS), (zF (nuF a0) κ κ' ∧ nuI κ' a0 c9 ∧ nuN κ' a0 = uV (zA κ (zR κ nuLimbs a0)) a1.toInt.toNat / 2 ^ a2.toInt.toNat) → Q κ') : zRun C 1 mNu_shiftBack [.ref a0, .int a1, .int a2] κ (oV Q noX) := by
  refine Nu_shiftBack_run W Ta0 ?_
  replace W := W.lo (Nat.le_trans W.1.2.1 W.1.2.2) (Nat.le_refl (zn κ))
  unfold w_Nu_shiftBack_0
  obtain ⟨p1, p2, p3, p4⟩ := hp
  have oN := W.n (ty_nuLimbs W Ta0)
  have q1 : 0 < 2 ^ a2.toInt.toNat := Nat.pow_pos (by decide)
  have hB : 2 ^ a2.toInt.toNat * 2 ^ (31 - a2.toInt.toNat) = 2147483648 := by
    rw [← Nat.pow_add]
    have : a2.toInt.toNat + (31 - a2.toInt.toNat) = 31 := by omega
    rw [this]
  have ks := cnk (x := a2) (by omega)
  have es : a2.toNatClampNeg = a2.toInt.toNat := by omega
  have ka := cnk (x := a1) (by omega)
  have ha := ihi a1
  intro κ_1 hκ_1
  intro W2
  have em : (if Int32.ofNat (zN κ (zR κ nuLimbs a0)) < a1 then Int32.ofNat (zN κ (zR κ nuLimbs a0)) else a1) = a1 := if_neg (by rw [lti, ofn_i oN]; omega)
  rw [em] at hκ_1
  have R1 : zR κ_1 = zR κ := by rw [hκ_1]; rfl
  have N1 : zN κ_1 = zN κ := by rw [hκ_1]; rfl
  have A1 : zA κ_1 = zA κ := by rw [hκ_1]; rfl
  have I1 : zI κ_1 nuLength a0 = a1 := by rw [hκ_1]; exact if_pos ⟨rfl, rfl⟩
  have Z1 : zF (nuF a0) κ κ_1 := by rw [hκ_1]; exact zF_ui ⟨rfl, Or.inr rfl⟩
  unfold w_Nu_shiftBack_15
  refine ⟨fun n l0 l2 l3 τ => n = (a1.toInt - l3.toInt).toNat ∧ (a0 = l0 ∧ a2 = l2 ∧ nuE κ_1 τ a0 ∧ (0 ≤ l3.toInt ∧ l3.toInt ≤ a1.toInt) ∧ sdI (zA κ (zR κ nuLimbs a0)) (zA τ (zR κ nuLimbs a0)) (2 ^ a2.toInt.toNat) a1.toInt.toNat l3.toNatClampNeg), ⟨_, rfl, ?_⟩, ?_⟩
  · refine ⟨rfl, rfl, nuE.rf, ⟨by decide, by rw [t0i]; omega⟩, ?_, fun j hj => ?_, fun _ _ => by rw [A1]⟩
    · show _ * 0 + _ = 0 + (if 0 < a1.toInt.toNat then _ else 0) * 1
      rw [if_pos (by omega)]
      show _ * 0 + _ = 0 + (zA κ (zR κ nuLimbs a0) 0).toNatClampNeg % _ * 1
      omega
    · rw [A1]; exact p4 j (by omega)
  rintro n15 _ _ x15_3 κ15 W15 T15_0 ⟨hn15, rfl, rfl, i15⟩
  obtain ⟨E15, k15, J15⟩ := i15
  have rs : zR κ15 = zR κ := E15.2.1.trans R1
  have is : zI κ15 nuLength a0 = a1 := by rw [E15.2.2.1]; exact I1
  have ns : zN κ15 = zN κ := E15.2.2.2.trans N1
  have kn := cnk k15.1
  have hj46 : ∀ (l0 : Nat) (l2 : Int32) (l3 : Int32) (s0 : Int64) (τ : zS), zW C (zn κ) τ → zT τ l0 = 8 → (a0 = l0 ∧ a2 = l2 ∧ κ15 = τ ∧ x15_3 = l3 ∧ x15_3.toInt < a1.toInt ∧ 0 ≤ s0.toInt ∧ s0.toInt.toNat = (if x15_3.toNatClampNeg + 1 < a1.toInt.toNat then (zA κ (zR κ nuLimbs a0) (x15_3.toNatClampNeg + 1)).toNatClampNeg else 0)) → w_Nu_shiftBack_46 C (zn κ) Q (fun (l0' : Nat) (l2' : Int32) (l3' : Int32) (τ : zS) => ∃ k < n15, (fun (n : Nat) (l0 : Nat) (l2 : Int32) (l3 : Int32) (τ : zS) => n = (a1.toInt - l3.toInt).toNat ∧ (a0 = l0 ∧ a2 = l2 ∧ nuE κ_1 τ a0 ∧ (0 ≤ l3.toInt ∧ l3.toInt ≤ a1.toInt) ∧ sdI (zA κ (zR κ nuLimbs a0)) (zA τ (zR κ nuLimbs a0)) (2 ^ a2.toInt.toNat) a1.toInt.toNat l3.toNatClampNeg)) k l0' l2' l3' τ) l0 l2 l3 s0 τ := by
    rintro _ _ y46_3 y46_s0 τ46 W46 T46_0 ⟨rfl, rfl, j46⟩
    unfold w_Nu_shiftBack_46
    obtain ⟨rfl, rfl, l46, s46, e46⟩ := j46
    have jx := J15.2.2 x15_3.toNatClampNeg (Nat.le_refl _)
    have lj := p4 x15_3.toNatClampNeg (by omega)
    have kl := cnk lj
    have e5 := cn1 (x := x15_3) k15.1 (by omega)
    have sl : y46_s0.toInt.toNat < 2147483648 := by
      rw [e46]
      split
      · exact lim31 _
      · decide
    refine ⟨?_, ?_⟩
    · rw [rs, ns, inb_iff]; omega  -- b2
    refine ⟨?_, ?_⟩
    · rw [rs, ns, inb_iff]; omega  -- b3
    intro κ_3 hκ_3
    intro W4
    intro x5 hx5
    refine ⟨_, ?_, rfl, ?_⟩
    · rw [hn15, hx5, e5.2]; omega  -- d4
    · rw [rs, jx] at hκ_3
      have tt := j_top (a := y46_s0) (y := zA κ (zR κ nuLimbs a0) x15_3.toNatClampNeg) s46 (by omega) lj
      have hl := lim31 (zA κ (zR κ nuLimbs a0) x15_3.toNatClampNeg)
      have s1 := j_shrv (x := (y46_s0 <<< ((31 : Int32).toInt64 &&& 63)) ||| (zA κ (zR κ nuLimbs a0) x15_3.toNatClampNeg).toInt64) (s := a2) (by rw [tt]; omega) (by omega) (by omega)
      have f1 := (j_and (x := (((y46_s0 <<< ((31 : Int32).toInt64 &&& 63)) ||| (zA κ (zR κ nuLimbs a0) x15_3.toNatClampNeg).toInt64).toUInt64 >>> (a2.toInt64.toUInt64 &&& Int64.toUInt64 63)).toInt64)).2
      have e9 : (y46_s0.toInt * 2147483648 + (zA κ (zR κ nuLimbs a0) x15_3.toNatClampNeg).toInt).toNat = y46_s0.toInt.toNat * 2147483648 + (zA κ (zR κ nuLimbs a0) x15_3.toNatClampNeg).toNatClampNeg := by omega
      rw [tt, es, e9, e46] at s1
      rw [s1] at f1
      have hκ' : κ_3 = ua κ15 (zR κ15 nuLimbs a0) x15_3.toNatClampNeg (((((y46_s0 <<< ((31 : Int32).toInt64 &&& 63)) ||| (zA κ (zR κ nuLimbs a0) x15_3.toNatClampNeg).toInt64).toUInt64 >>> (a2.toInt64.toUInt64 &&& Int64.toUInt64 63)).toInt64 &&& 2147483647).toInt32) := by rw [rs]; exact hκ_3
      obtain ⟨u1, u2, u3⟩ := nu_u W15 T15_0 hκ'
      rw [rs] at u2
      have s := sdI_s J15 q1 hB (by omega) f1 u2
      rw [hx5]
      exact ⟨rfl, rfl, E15.tr u1, by rw [e5.2]; omega, by rw [e5.1]; exact s⟩
  have fin : zI κ15 nuLength a0 ≤ x15_3 → nuB κ15 a0 c9 ∧ nuN κ15 a0 = uV (zA κ (zR κ nuLimbs a0)) a1.toInt.toNat / 2 ^ a2.toInt.toNat := fun c6 => by
    rw [is, lei] at c6
    have kk : x15_3.toNatClampNeg = a1.toInt.toNat := by omega
    rw [kk] at J15
    refine ⟨⟨?_, ?_, fun i hi => ?_⟩, ?_⟩
    · rw [rs, ns, is]; omega
    · rw [rs, ns]; exact p2
    · rw [is] at hi
      rw [rs]
      exact J15.2.1 i (by omega)
    · have ek : a1.toNatClampNeg = a1.toInt.toNat := by omega
      unfold nuN
      rw [is, rs, ek]
      exact sdI_e q1 J15
  refine ⟨fun c6 => ?_, fun c6 => ?_⟩
  · skip
    unfold w_Nu_shiftBack_80
    refine ⟨fun n l0 τ => n = ((zI τ nuLength a0).toInt).toNat ∧ (a0 = l0 ∧ nuR κ15 τ a0), ⟨_, rfl, ?_⟩, ?_⟩
    · have B := (fin c6).1
      exact ⟨rfl, nuT.rf, ⟨B.1.1, Int.le_refl _⟩, rfl⟩
    rintro n80 _ κ80 W80 T80_0 ⟨hn80, rfl, i80⟩
    have lB := (fin c6).1.1
    have l80 := i80.2.1
    refine ⟨fun c7 => ?_, fun c7 => ?_⟩
    · skip
      refine h _ ?_
      · rw [lei, t0i] at c7
        have q := nuR_e i80 (fin c6).1 (Or.inl c7)
        exact ⟨(Z1.tr E15.1).tr i80.1.1, q.1, by rw [q.2.1]; exact (fin c6).2⟩
    · skip
      rw [lei, t0i] at c7
      have d := dec_i (x := zI κ80 nuLength a0) (by omega)
      refine ⟨?_, ?_⟩
      · rw [i80.1.2.1, i80.1.2.2.2.1, inb_iff, d]; omega  -- b8
      refine ⟨fun c8 => ?_, fun c8 => ?_⟩
      · skip
        refine h _ ?_
        · have q := nuR_e i80 (fin c6).1 (Or.inr c8)
          exact ⟨(Z1.tr E15.1).tr i80.1.1, q.1, by rw [q.2.1]; exact (fin c6).2⟩
      · skip
        intro κ_9 hκ_9
        intro W10
        refine ⟨_, ?_, rfl, ?_⟩
        · have s := nuR_s i80 (by omega) c8 hκ_9
          rw [hn80]; omega
        · exact ⟨rfl, (nuR_s i80 (by omega) c8 hκ_9).1⟩  -- i11
  · skip
    refine ⟨fun c11 => ?_, fun c11 => ?_⟩
    · skip
      refine hj46 _ _ _ _ _ W15 ?_ ?_
      · exact T15_0  -- t12
      · rw [is, lei] at c6
        have e5 := cn1 (x := x15_3) k15.1 (by omega)
        rw [is, lei, e5.2] at c11
        refine ⟨rfl, rfl, rfl, rfl, by omega, by decide, ?_⟩
        rw [if_neg (by omega)]
        rfl
    · skip
      rw [is, lei] at c6
      have e5 := cn1 (x := x15_3) k15.1 (by omega)
      rw [is, lei, e5.2] at c11
      refine ⟨?_, ?_⟩
      · rw [rs, ns, inb_iff, e5.2]; omega  -- b14
      refine hj46 _ _ _ _ _ W15 ?_ ?_
      · exact T15_0  -- t15
      · have jx := J15.2.2 (x15_3.toNatClampNeg + 1) (by omega)
        have lj := p4 (x15_3.toNatClampNeg + 1) (by omega)
        have kl := cnk lj
        have b1 : (zA κ (zR κ nuLimbs a0) (x15_3.toNatClampNeg + 1)).toInt64.toInt = (zA κ (zR κ nuLimbs a0) (x15_3.toNatClampNeg + 1)).toInt := Int32.toInt_toInt64 _
        refine ⟨rfl, rfl, rfl, rfl, by omega, ?_, ?_⟩
        · rw [rs, e5.1, jx, b1]; exact lj
        · rw [rs, e5.1, jx, b1, if_pos (by omega)]
          omega
