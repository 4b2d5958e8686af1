section
set_option maxHeartbeats 1600000
/-! the class: Num's high, shiftFrom, shiftBack -/
theorem sh_l : ∀ n, n < 64 → (((Int32.ofNat n).toInt64 &&& 63).toBitVec.smod 64).toNat = n := by decide +kernel
theorem sh_r : ∀ n, n < 64 → (((Int32.ofNat n).toInt64.toUInt64 &&& Int64.toUInt64 63).toBitVec % 64).toNat = n := by decide +kernel
theorem sh_e {s : Int32} (h1 : 0 ≤ s.toInt) (h2 : s.toInt < 64) : s = Int32.ofNat s.toNatClampNeg := by
  have k := cnk h1
  exact Int32.toInt_inj.mp (by rw [ofn_i (by omega)]; omega)
theorem j_shl {x : Int64} {s : Int32} (h0 : 0 ≤ x.toInt) (h1 : 0 ≤ s.toInt) (h2 : s.toInt < 64) (h3 : x.toInt.toNat * 2 ^ s.toNatClampNeg < 9223372036854775808) : (x <<< (s.toInt64 &&& 63)).toInt = ((x.toInt.toNat * 2 ^ s.toNatClampNeg : Nat) : Int) := by
  have k := cnk h1
  have q := sh_l s.toNatClampNeg (by omega)
  rw [← sh_e h1 h2] at q
  have b := l63 h0
  have bx : x.toBitVec.toNat = x.toInt.toNat := by omega
  have e : (x <<< (s.toInt64 &&& 63)).toBitVec.toNat = x.toInt.toNat * 2 ^ s.toNatClampNeg := by
    rw [Int64.toBitVec_shiftLeft, BitVec.shiftLeft_eq', q, BitVec.toNat_shiftLeft, Nat.shiftLeft_eq, bx]
    exact Nat.mod_eq_of_lt (by omega)
  have t : (x <<< (s.toInt64 &&& 63)).toInt = ((x <<< (s.toInt64 &&& 63)).toBitVec.toNat : Int) := BitVec.toInt_eq_toNat_of_lt (by rw [e]; omega)
  rw [t, e]
theorem j_shrv {x : Int64} {s : Int32} (h0 : 0 ≤ x.toInt) (h1 : 0 ≤ s.toInt) (h2 : s.toInt < 64) : ((x.toUInt64 >>> (s.toInt64.toUInt64 &&& Int64.toUInt64 63)).toInt64).toInt = ((x.toInt.toNat / 2 ^ s.toNatClampNeg : Nat) : Int) := by
  have k := cnk h1
  have q := sh_r s.toNatClampNeg (by omega)
  rw [← sh_e h1 h2] at q
  have b := l63 h0
  have bx : x.toBitVec.toNat = x.toInt.toNat := by omega
  have l := Int64.toInt_lt x
  have e : ((x.toUInt64 >>> (s.toInt64.toUInt64 &&& Int64.toUInt64 63)).toInt64).toBitVec.toNat = x.toInt.toNat / 2 ^ s.toNatClampNeg := by
    rw [UInt64.toBitVec_toInt64, UInt64.toBitVec_shiftRight, Int64.toBitVec_toUInt64, BitVec.ushiftRight_eq', q, BitVec.toNat_ushiftRight, Nat.shiftRight_eq_div_pow, bx]
  have le : x.toInt.toNat / 2 ^ s.toNatClampNeg ≤ x.toInt.toNat := Nat.div_le_self _ _
  have t : ((x.toUInt64 >>> (s.toInt64.toUInt64 &&& Int64.toUInt64 63)).toInt64).toInt = (((x.toUInt64 >>> (s.toInt64.toUInt64 &&& Int64.toUInt64 63)).toInt64).toBitVec.toNat : Int) := BitVec.toInt_eq_toNat_of_lt (by rw [e]; omega)
  rw [t, e]
theorem j_orr {a b : Int64} {k c : Nat} (ha : 0 ≤ a.toInt) (ha2 : a.toInt.toNat < 2 ^ k) (hb0 : 0 ≤ b.toInt) (hb : b.toInt.toNat = c * 2 ^ k) (hs : a.toInt + b.toInt < 9223372036854775808) : (b ||| a).toInt = b.toInt + a.toInt := by
  have ba := l63 ha
  have bb := l63 hb0
  have xa : a.toBitVec.toNat = a.toInt.toNat := by omega
  have xb : b.toBitVec.toNat = b.toInt.toNat := by omega
  have e : (b ||| a).toBitVec.toNat = b.toInt.toNat + a.toInt.toNat := by
    rw [Int64.toBitVec_or, BitVec.toNat_or, xa, xb, hb, ← Nat.shiftLeft_eq, ← Nat.shiftLeft_add_eq_or_of_lt ha2]
  have t : (b ||| a).toInt = ((b ||| a).toBitVec.toNat : Int) := BitVec.toInt_eq_toNat_of_lt (by rw [e]; omega)
  rw [t, e]
  omega
theorem j_orl {a b : Int64} {k c : Nat} (ha : 0 ≤ a.toInt) (ha2 : a.toInt.toNat < 2 ^ k) (hb0 : 0 ≤ b.toInt) (hb : b.toInt.toNat = c * 2 ^ k) (hs : a.toInt + b.toInt < 9223372036854775808) : (a ||| b).toInt = b.toInt + a.toInt := by
  rw [Int64.or_comm]
  exact j_orr ha ha2 hb0 hb hs
/-- three limbs without their lowest bits -/
theorem hi_ar {o l m t : Nat} (ho : o ≤ 30) (hl : l < 2147483648) (hm : m < 2147483648) : (l + (m * 2147483648 + t * (2147483648 * 2147483648))) / 2 ^ o = l / 2 ^ o + (m * 2 ^ (31 - o) + t * 2 ^ (62 - o)) ∧ l / 2 ^ o < 2 ^ (31 - o) ∧ l / 2 ^ o + m * 2 ^ (31 - o) < 2 ^ (62 - o) := by
  have e1 : (2147483648 : Nat) = 2 ^ o * 2 ^ (31 - o) := by
    rw [← Nat.pow_add]
    have : o + (31 - o) = 31 := by omega
    rw [this]
  have e2 : 2 ^ (62 - o) = 2 ^ (31 - o) * 2147483648 := by
    have : 62 - o = 31 - o + 31 := by omega
    rw [this, Nat.pow_add]
  have p : 0 < 2 ^ o := Nat.pow_pos (by decide)
  have a1 : m * 2147483648 + t * (2147483648 * 2147483648) = 2 ^ o * (m * 2 ^ (31 - o) + t * 2 ^ (62 - o)) := by
    rw [e2, Nat.mul_add, Nat.mul_left_comm (2 ^ o) m, ← e1, Nat.mul_left_comm (2 ^ o) t, ← Nat.mul_assoc (2 ^ o) (2 ^ (31 - o)), ← e1]
  have d1 : l / 2 ^ o < 2 ^ (31 - o) := by
    rw [Nat.div_lt_iff_lt_mul p, Nat.mul_comm, ← e1]
    exact hl
  refine ⟨by rw [a1, Nat.add_mul_div_left _ _ p], d1, ?_⟩
  have m1 := Nat.mul_le_mul_right (2 ^ (31 - o)) (Nat.le_of_lt_succ (Nat.succ_lt_succ hm) : m + 1 ≤ 2147483648)
  rw [Nat.add_mul] at m1
  rw [e2, Nat.mul_comm (2 ^ (31 - o))]
  omega
theorem hi_v {κ : zS} {x c s : Nat} (I : nuI κ x c) (h : nuN κ x < 2 ^ (s + 62)) : nuN κ x / 2 ^ s = ((uP κ x (s / 31)).toNatClampNeg + ((uP κ x (s / 31 + 1)).toNatClampNeg * 2147483648 + (uP κ x (s / 31 + 2)).toNatClampNeg * (2147483648 * 2147483648))) / 2 ^ (s % 31) := by
  have kl : nuK κ x ≤ s / 31 + 3 := by
    refine Nat.le_of_not_lt (fun l => ?_)
    have g := nuN_ge I (by omega)
    have g2 := Nat.pow_le_pow_right (n := 2147483648) (by decide) (show s / 31 + 3 ≤ nuK κ x - 1 by omega)
    rw [p31_2] at g2
    have g3 := Nat.pow_le_pow_right (n := 2) (by decide) (show s + 62 ≤ 31 * (s / 31 + 3) by omega)
    omega
  have e : nuN κ x = uV (uP κ x) (s / 31) + ((uP κ x (s / 31)).toNatClampNeg + ((uP κ x (s / 31 + 1)).toNatClampNeg * 2147483648 + (uP κ x (s / 31 + 2)).toNatClampNeg * (2147483648 * 2147483648))) * 2147483648 ^ (s / 31) := by
    rw [← uP_v kl]
    show uV _ (s / 31) + _ * 2147483648 ^ (s / 31) + _ * 2147483648 ^ (s / 31 + 1) + _ * 2147483648 ^ (s / 31 + 1 + 1) = _
    rw [p31_s (n := s / 31 + 1), p31_s (n := s / 31)]
    simp only [Nat.add_mul, Nat.mul_assoc]
    omega
  have l := uV_lt (f := uP κ x) (n := s / 31)
  have p : 0 < 2147483648 ^ (s / 31) := Nat.pow_pos (by decide)
  have es : 2 ^ s = 2147483648 ^ (s / 31) * 2 ^ (s % 31) := by
    rw [p31_2, ← Nat.pow_add]
    congr 1
    omega
  rw [es, ← Nat.div_div_eq_div_mul]
  congr 1
  rw [e, Nat.mul_comm, Nat.add_mul_div_left _ _ p, Nat.div_eq_of_lt l, Nat.zero_add]
theorem Nu_high_c {C : zC} {n0 : Nat} {a0 : Nat} {a1 : Int32} {κ : zS} {Q : Int64 → zS → Prop} (W : zW C n0 κ) (Ta0 : zT κ a0 = 8) (c9 : Nat) (hp : nuI κ a0 c9 ∧ (0 ≤ a1.toInt ∧ a1.toInt ≤ 1000000000) ∧ nuN κ a0 < 2 ^ (a1.toInt.toNat + 62)) (h : ∀ (v : Int64), (v.toInt = ((nuN κ a0 / 2 ^ a1.toInt.toNat : Nat) : Int)) → Q v κ) : zRun C 0 mNu_high [.ref a0, .int a1] κ (oJ Q noX) := by
  refine Nu_high_run W Ta0 ?_
  replace W := W.lo (Nat.le_trans W.1.2.1 W.1.2.2) (Nat.le_refl (zn κ))
  unfold w_Nu_high_0
  obtain ⟨I0, p1, p2⟩ := hp
  have k0 := nuK_i I0.1
  have lb := I0.1.1
  have t31 : (31 : Int32).toInt = 31 := rfl
  have t62 : (62 : Int32).toInt = 62 := rfl
  have g : ∀ j, (uP κ a0 j).toInt64.toInt = ((uP κ a0 j).toNatClampNeg : Int) ∧ (uP κ a0 j).toNatClampNeg < 2147483648 := fun j => by
    have e : (uP κ a0 j).toInt64.toInt = (uP κ a0 j).toInt := Int32.toInt_toInt64 _
    have k := cnk (uP_0 (j := j) I0.1)
    have l := lim31 (uP κ a0 j)
    omega
  have hj95 : ∀ (l0 : Nat) (l3 : Int32) (l4 : Int64) (l6 : Int64) (s0 : Int64) (τ : zS), zW C (zn κ) τ → zT τ l0 = 8 → (κ = τ ∧ a0 = l0 ∧ l3.toInt = ((a1.toInt.toNat % 31 : Nat) : Int) ∧ l4 = (uP κ a0 (a1.toInt.toNat / 31)).toInt64 ∧ l6 = (uP κ a0 (a1.toInt.toNat / 31 + 1)).toInt64 ∧ s0 = (uP κ a0 (a1.toInt.toNat / 31 + 2)).toInt64) → w_Nu_high_95 C (zn κ) Q  l0 l3 l4 l6 s0 τ := by
    rintro _ y95_3 y95_4 y95_6 y95_s0 _ W95 T95_0 ⟨rfl, rfl, j95⟩
    unfold w_Nu_high_95
    refine h _ ?_
    · obtain ⟨e3, rfl, rfl, rfl⟩ := j95
      have g0 := g (a1.toInt.toNat / 31)
      have g1 := g (a1.toInt.toNat / 31 + 1)
      have g2 := g (a1.toInt.toNat / 31 + 2)
      have hv := hi_v I0 p2
      have ar := hi_ar (o := a1.toInt.toNat % 31) (t := (uP κ a0 (a1.toInt.toNat / 31 + 2)).toNatClampNeg) (by omega) g0.2 g1.2
      have vl : nuN κ a0 / 2 ^ a1.toInt.toNat < 4611686018427387904 := by
        rw [Nat.div_lt_iff_lt_mul (Nat.pow_pos (by decide))]
        rw [Nat.pow_add, Nat.mul_comm] at p2
        exact p2
      rw [hv, ar.1] at vl
      have s3 := cnk (x := y95_3) (by omega)
      have ko : y95_3.toNatClampNeg = a1.toInt.toNat % 31 := by omega
      have d1 : ((31 : Int32) - y95_3).toInt = 31 - y95_3.toInt := by rw [sub_i (by rw [t31]; omega) (by rw [t31]; omega), t31]
      have d2 : ((62 : Int32) - y95_3).toInt = 62 - y95_3.toInt := by rw [sub_i (by rw [t62]; omega) (by rw [t62]; omega), t62]
      have k1 := cnk (x := (31 : Int32) - y95_3) (by omega)
      have k2 := cnk (x := (62 : Int32) - y95_3) (by omega)
      have ko1 : ((31 : Int32) - y95_3).toNatClampNeg = 31 - a1.toInt.toNat % 31 := by omega
      have ko2 : ((62 : Int32) - y95_3).toNatClampNeg = 62 - a1.toInt.toNat % 31 := by omega
      have n0 : (uP κ a0 (a1.toInt.toNat / 31)).toInt64.toInt.toNat = (uP κ a0 (a1.toInt.toNat / 31)).toNatClampNeg := by omega
      have n1 : (uP κ a0 (a1.toInt.toNat / 31 + 1)).toInt64.toInt.toNat = (uP κ a0 (a1.toInt.toNat / 31 + 1)).toNatClampNeg := by omega
      have n2 : (uP κ a0 (a1.toInt.toNat / 31 + 2)).toInt64.toInt.toNat = (uP κ a0 (a1.toInt.toNat / 31 + 2)).toNatClampNeg := by omega
      have b0 := j_shrv (x := (uP κ a0 (a1.toInt.toNat / 31)).toInt64) (s := y95_3) (by omega) (by omega) (by omega)
      rw [n0, ko] at b0
      generalize hz9 : (uP κ a0 (a1.toInt.toNat / 31)).toNatClampNeg / 2 ^ (a1.toInt.toNat % 31) = z9 at ar vl b0
      have b1 := j_shl (x := (uP κ a0 (a1.toInt.toNat / 31 + 1)).toInt64) (s := (31 : Int32) - y95_3) (by omega) (by omega) (by omega) (by rw [n1, ko1]; omega)
      rw [n1, ko1] at b1
      have b2 := j_shl (x := (uP κ a0 (a1.toInt.toNat / 31 + 2)).toInt64) (s := (62 : Int32) - y95_3) (by omega) (by omega) (by omega) (by rw [n2, ko2]; omega)
      rw [n2, ko2] at b2
      have c1 := j_orl (k := 31 - a1.toInt.toNat % 31) (c := (uP κ a0 (a1.toInt.toNat / 31 + 1)).toNatClampNeg) (a := ((uP κ a0 (a1.toInt.toNat / 31)).toInt64.toUInt64 >>> (y95_3.toInt64.toUInt64 &&& Int64.toUInt64 63)).toInt64) (b := (uP κ a0 (a1.toInt.toNat / 31 + 1)).toInt64 <<< (((31 : Int32) - y95_3).toInt64 &&& 63)) (by omega) (by rw [b0]; exact ar.2.1) (by omega) (by rw [b1]; rfl) (by rw [b0, b1]; omega)
      have c2 := j_orl (k := 62 - a1.toInt.toNat % 31) (c := (uP κ a0 (a1.toInt.toNat / 31 + 2)).toNatClampNeg) (a := ((uP κ a0 (a1.toInt.toNat / 31)).toInt64.toUInt64 >>> (y95_3.toInt64.toUInt64 &&& Int64.toUInt64 63)).toInt64 ||| (uP κ a0 (a1.toInt.toNat / 31 + 1)).toInt64 <<< (((31 : Int32) - y95_3).toInt64 &&& 63)) (b := (uP κ a0 (a1.toInt.toNat / 31 + 2)).toInt64 <<< (((62 : Int32) - y95_3).toInt64 &&& 63)) (by rw [c1]; omega) (by rw [c1, b0, b1]; omega) (by omega) (by rw [b2]; rfl) (by rw [c1, b0, b1, b2]; omega)
      rw [c2, c1, b0, b1, b2, hv, ar.1]
      omega
  have hj64 : ∀ (l0 : Nat) (l2 : Int32) (l3 : Int32) (l4 : Int64) (s0 : Int64) (τ : zS), zW C (zn κ) τ → zT τ l0 = 8 → (κ = τ ∧ a0 = l0 ∧ (l2.toInt = ((a1.toInt.toNat / 31 : Nat) : Int) ∧ l3.toInt = ((a1.toInt.toNat % 31 : Nat) : Int)) ∧ l4 = (uP κ a0 (a1.toInt.toNat / 31)).toInt64 ∧ s0 = (uP κ a0 (a1.toInt.toNat / 31 + 1)).toInt64) → w_Nu_high_64 C (zn κ) Q  l0 l2 l3 l4 s0 τ := by
    rintro _ y64_2 y64_3 y64_4 y64_s0 _ W64 T64_0 ⟨rfl, rfl, j64⟩
    unfold w_Nu_high_64
    obtain ⟨⟨e2, e3⟩, rfl, rfl⟩ := j64
    have t2 : (2 : Int32).toInt = 2 := rfl
    have ea : (y64_2 + 2).toInt = y64_2.toInt + 2 := by rw [add_i (by rw [t2]; omega) (by rw [t2]; omega), t2]
    have ka := cnk (x := y64_2 + 2) (by omega)
    have kn : (y64_2 + 2).toNatClampNeg = a1.toInt.toNat / 31 + 2 := by omega
    have nul : ¬ a1.toInt.toNat / 31 + 2 < nuK κ a0 → (0 : Int64) = (uP κ a0 (a1.toInt.toNat / 31 + 2)).toInt64 := fun z => by
      have : uP κ a0 (a1.toInt.toNat / 31 + 2) = 0 := if_neg z
      rw [this]
      rfl
    refine ⟨fun c1 => ?_, fun c1 => ?_⟩
    · skip
      refine hj95 _ _ _ _ _ _ W64 ?_ ?_
      · exact T64_0  -- t2
      · rw [lti, t0i] at c1
        exact absurd c1 (by omega)
    · skip
      refine ⟨fun c2 => ?_, fun c2 => ?_⟩
      · skip
        refine hj95 _ _ _ _ _ _ W64 ?_ ?_
        · exact T64_0  -- t4
        · rw [lei] at c2
          exact ⟨rfl, rfl, e3, rfl, rfl, nul (by omega)⟩
      · skip
        rw [lei] at c2
        refine ⟨?_, ?_⟩
        · rw [inb_iff]; omega  -- b6
        refine hj95 _ _ _ _ _ _ W64 ?_ ?_
        · exact T64_0  -- t7
        · refine ⟨rfl, rfl, e3, rfl, rfl, ?_⟩
          rw [kn]
          have : uP κ a0 (a1.toInt.toNat / 31 + 2) = zA κ (zR κ nuLimbs a0) (a1.toInt.toNat / 31 + 2) := if_pos (by omega)
          rw [this]
  have hj33 : ∀ (l0 : Nat) (l2 : Int32) (l3 : Int32) (s0 : Int64) (τ : zS), zW C (zn κ) τ → zT τ l0 = 8 → (κ = τ ∧ a0 = l0 ∧ (l2.toInt = ((a1.toInt.toNat / 31 : Nat) : Int) ∧ l3.toInt = ((a1.toInt.toNat % 31 : Nat) : Int)) ∧ s0 = (uP κ a0 (a1.toInt.toNat / 31)).toInt64) → w_Nu_high_33 C (zn κ) Q  l0 l2 l3 s0 τ := by
    rintro _ y33_2 y33_3 y33_s0 _ W33 T33_0 ⟨rfl, rfl, j33⟩
    unfold w_Nu_high_33
    obtain ⟨⟨e2, e3⟩, rfl⟩ := j33
    have ea : (y33_2 + 1).toInt = y33_2.toInt + 1 := by rw [add_i (by rw [t1i]; omega) (by rw [t1i]; omega), t1i]
    have ka := cnk (x := y33_2 + 1) (by omega)
    have kn : (y33_2 + 1).toNatClampNeg = a1.toInt.toNat / 31 + 1 := by omega
    have nul : ¬ a1.toInt.toNat / 31 + 1 < nuK κ a0 → (0 : Int64) = (uP κ a0 (a1.toInt.toNat / 31 + 1)).toInt64 := fun z => by
      have : uP κ a0 (a1.toInt.toNat / 31 + 1) = 0 := if_neg z
      rw [this]
      rfl
    refine ⟨fun c3 => ?_, fun c3 => ?_⟩
    · skip
      refine hj64 _ _ _ _ _ _ W33 ?_ ?_
      · exact T33_0  -- t9
      · rw [lti, t0i] at c3
        exact absurd c3 (by omega)
    · skip
      refine ⟨fun c4 => ?_, fun c4 => ?_⟩
      · skip
        refine hj64 _ _ _ _ _ _ W33 ?_ ?_
        · exact T33_0  -- t11
        · rw [lei] at c4
          exact ⟨rfl, rfl, ⟨e2, e3⟩, rfl, nul (by omega)⟩
      · skip
        rw [lei] at c4
        refine ⟨?_, ?_⟩
        · rw [inb_iff]; omega  -- b13
        refine hj64 _ _ _ _ _ _ W33 ?_ ?_
        · exact T33_0  -- t14
        · refine ⟨rfl, rfl, ⟨e2, e3⟩, rfl, ?_⟩
          rw [kn]
          have : uP κ a0 (a1.toInt.toNat / 31 + 1) = zA κ (zR κ nuLimbs a0) (a1.toInt.toNat / 31 + 1) := if_pos (by omega)
          rw [this]
  refine ⟨?_, ?_⟩
  · decide  -- b16
  intro x5 hx5
  have e5 : x5.toInt = ((a1.toInt.toNat / 31 : Nat) : Int) := by
    rw [hx5, div_i p1.1 (by decide), t31]
    omega
  have k5 := cnk (x := x5) (by omega)
  have kn : x5.toNatClampNeg = a1.toInt.toNat / 31 := by omega
  refine ⟨?_, ?_⟩
  · decide  -- b17
  intro x6 hx6
  have e6 : x6.toInt = ((a1.toInt.toNat % 31 : Nat) : Int) := by
    have em : (a1 / 31 * 31).toInt = x5.toInt * 31 := by rw [← hx5, mul_i (by rw [t31]; omega) (by rw [t31]; omega), t31]
    rw [hx6, sub_i (by rw [em]; omega) (by rw [em]; omega), em]
    omega
  have nul : ¬ a1.toInt.toNat / 31 < nuK κ a0 → (0 : Int64) = (uP κ a0 (a1.toInt.toNat / 31)).toInt64 := fun z => by
    have : uP κ a0 (a1.toInt.toNat / 31) = 0 := if_neg z
    rw [this]
    rfl
  refine ⟨fun c7 => ?_, fun c7 => ?_⟩
  · skip
    refine hj33 _ _ _ _ _ W ?_ ?_
    · exact Ta0  -- t18
    · rw [lti, t0i] at c7
      exact absurd c7 (by omega)
  · skip
    refine ⟨fun c8 => ?_, fun c8 => ?_⟩
    · skip
      refine hj33 _ _ _ _ _ W ?_ ?_
      · exact Ta0  -- t20
      · rw [lei] at c8
        exact ⟨rfl, rfl, ⟨e5, e6⟩, nul (by omega)⟩
    · skip
      rw [lei] at c8
      refine ⟨?_, ?_⟩
      · rw [inb_iff]; omega  -- b22
      refine hj33 _ _ _ _ _ W ?_ ?_
      · exact Ta0  -- t23
      · refine ⟨rfl, rfl, ⟨e5, e6⟩, ?_⟩
        rw [kn]
        have : uP κ a0 (a1.toInt.toNat / 31) = zA κ (zR κ nuLimbs a0) (a1.toInt.toNat / 31) := if_pos (by omega)
        rw [this]

theorem nu_c2 {o n : Nat} (h : 3 * o ≤ 2 * n) (h2 : o + 2 ≤ n) : n + wS 800 o ≤ wS 800 n ∧ 4 + wC 800 o ≤ wC 800 n := by
  have e1 : ∀ k, wS 800 k = 3 * k + 2 := fun k => rfl
  have e2 : ∀ k, wC 800 k = 2 * k + 8 := fun k => rfl
  rw [e1, e1, e2, e2]
  omega
/-- a number moved up, limb by limb -/
def sfI (L X : Nat → Int32) (q i c : Nat) : Prop := uV X i + c * 2147483648 ^ i = uV L i * q ∧ c < q ∧ ∀ j, j < i → 0 ≤ (X j).toInt
theorem sfI_s {L X X' : Nat → Int32} {q i c : Nat} {x : Int32} (h : sfI L X q i c) (ex : x.toInt = (((L i).toNatClampNeg * q + c : Nat) : Int) % 2147483648) (e : X' = upd X i x) : sfI L X' q (i + 1) (((L i).toNatClampNeg * q + c) / 2147483648) := by
  obtain ⟨h1, h2, h3⟩ := h
  have l := lim31 (L i)
  have kx := cnk (x := x) (by omega)
  have mi : X' i = x := by rw [e]; exact if_pos rfl
  have mj : ∀ j, j ≠ i → X' j = X j := fun j hj => by rw [e]; exact if_neg hj
  refine ⟨?_, ?_, fun j hj => ?_⟩
  · show uV X' i + (X' i).toNatClampNeg * 2147483648 ^ i + _ = (uV L i + (L i).toNatClampNeg * 2147483648 ^ i) * q
    rw [uV_e (g := X) (fun j hj => mj j (Nat.ne_of_lt hj)), mi, p31_s]
    have e9 : x.toNatClampNeg = ((L i).toNatClampNeg * q + c) % 2147483648 := by omega
    rw [e9]
    exact ar31 h1 rfl
  · refine Nat.div_lt_of_lt_mul ?_
    have m := Nat.mul_le_mul_right q (Nat.le_of_lt_succ (Nat.succ_lt_succ l) : (L i).toNatClampNeg + 1 ≤ 2147483648)
    rw [Nat.add_mul] at m
    omega
  · by_cases z : j = i
    · rw [z, mi]; omega
    · rw [mj j z]; exact h3 j (by omega)
theorem Nu_shiftFrom_c {C : zC} {n0 : Nat} {a0 : Nat} {a1 : Nat} {a2 : Int32} {κ : zS} {Q : zS → Prop} (W : zW C n0 κ) (Ta0 : zT κ a0 = 8) (Ta1 : zT κ a1 = 8) (c9 d9 : Nat) (hp : (2 ≤ (zN κ (zR κ nuLimbs a0)) ∧ (zN κ (zR κ nuLimbs a0)) ≤ c9) ∧ nuB κ a1 d9 ∧ a0 ≠ a1 ∧ (0 ≤ a2.toInt ∧ a2.toInt ≤ 30) ∧ nuK κ a1 + nuK κ a1 / 2 + 2 ≤ c9 ∧ c9 ≤ 30000000) (h : ∀ (κ' : zS), (zF (nuF a0) κ κ' ∧ nuB κ' a0 c9 ∧ nuK κ' a0 = nuK κ a1 + 1 ∧ nuN κ' a0 = nuN κ a1 * 2 ^ a2.toInt.toNat) → Q κ') : zRun C 0 mNu_shiftFrom [.ref a0, .ref a1, .int a2] κ (oV Q noX) := by
  refine Nu_shiftFrom_run W Ta0 Ta1 ?_
  replace W := W.lo (Nat.le_trans W.1.2.1 W.1.2.2) (Nat.le_refl (zn κ))
  unfold w_Nu_shiftFrom_0
  obtain ⟨p1, p2, p3, p4, p5, p6⟩ := hp
  have k := nuK_i p2
  have kd : nuK κ a1 = (zI κ nuLength a1).toNatClampNeg := rfl
  have lb := p2.1
  have nF : ∀ f, ¬ nuF a0 f a1 := fun f z => p3 z.1.symm
  have q1 : 0 < 2 ^ a2.toInt.toNat := Nat.pow_pos (by decide)
  have q2 : 2 ^ a2.toInt.toNat ≤ 1073741824 := Nat.pow_le_pow_right (n := 2) (j := 30) (by decide) (by omega)
  have ks := cnk (x := a2) (by omega)
  have es : a2.toNatClampNeg = a2.toInt.toNat := by omega
  have hj33 : ∀ (l0 : Nat) (l1 : Nat) (l2 : Int32) (τ : zS), zW C (zn κ) τ → zT τ l0 = 8 → zT τ l1 = 8 → (a0 = l0 ∧ a1 = l1 ∧ a2 = l2 ∧ zF (nuF a0) κ τ ∧ zI τ = zI κ ∧ (2 ≤ (zN τ (zR τ nuLimbs a0)) ∧ (zN τ (zR τ nuLimbs a0)) ≤ c9) ∧ nuK κ a1 + 1 ≤ (zN τ (zR τ nuLimbs a0))) → w_Nu_shiftFrom_33 C (zn κ) Q  l0 l1 l2 τ := by
    rintro _ _ _ τ33 W33 T33_0 T33_1 ⟨rfl, rfl, rfl, j33⟩
    unfold w_Nu_shiftFrom_33
    unfold w_Nu_shiftFrom_38
    refine ⟨fun n l0 l1 l2 l3 l4 τ => n = ((zI κ nuLength a1).toInt - l4.toInt).toNat ∧ (a0 = l0 ∧ a1 = l1 ∧ a2 = l2 ∧ nuE τ33 τ a0 ∧ (0 ≤ l4.toInt ∧ l4.toInt ≤ (zI κ nuLength a1).toInt) ∧ 0 ≤ l3.toInt ∧ sfI (zA κ (zR κ nuLimbs a1)) (zA τ (zR τ33 nuLimbs a0)) (2 ^ a2.toInt.toNat) l4.toNatClampNeg l3.toInt.toNat), ⟨_, rfl, ?_⟩, ?_⟩
    · exact ⟨rfl, rfl, rfl, nuE.rf, ⟨by decide, by rw [t0i]; omega⟩, by decide, by
        show 0 + 0 * _ = 0 * _
        omega, q1, fun j hj => absurd hj (Nat.not_lt_zero _)⟩
    rintro n38 _ _ _ x38_3 x38_4 κ38 W38 T38_0 T38_1 ⟨hn38, rfl, rfl, rfl, i38⟩
    obtain ⟨E38, k38, c38, J38⟩ := i38
    have rs := E38.2.1
    have is : zI κ38 = zI κ := E38.2.2.1.trans j33.2.1
    have ns := E38.2.2.2
    have u := nu_z W Ta1 (j33.1.tr E38.1) (nF nuLimbs) (nF nuLength)
    have kn := cnk k38.1
    have lz := j33.2.2
    refine ⟨fun c1 => ?_, fun c1 => ?_⟩
    · skip
      refine ⟨?_, ?_⟩
      · rw [is, rs, ns, inb_iff]; omega  -- b2
      intro κ_2 hκ_2
      intro W3
      intro κ_4 hκ_4
      intro W5
      refine h _ ?_
      · rw [is, lei] at c1
        have kk : x38_4.toNatClampNeg = nuK κ a1 := by omega
        rw [kk] at J38
        have jb := J38.2.1
        have i2 : zI κ_2 nuLength a1 = zI κ nuLength a1 := by rw [hκ_2, ← is]; rfl
        have e1 := cn1 (x := zI κ nuLength a1) lb.1 (by omega)
        rw [i2] at hκ_4
        rw [is] at hκ_2
        have fin := nu_fin (m := nuK κ a1) (c := c9) W38 T38_0 hκ_2 hκ_4 (by rw [e1.2]; omega) (by rw [rs, ns]; omega) (by rw [rs, ns]; omega) c38 (fun j hj => by rw [rs]; exact J38.2.2 j hj)
        have kc := cnk c38
        refine ⟨(j33.1.tr E38.1).tr fin.1, fin.2.1, ?_, ?_⟩
        · have : zI κ_4 nuLength a0 = zI κ nuLength a1 + 1 := by rw [hκ_4]; exact if_pos ⟨rfl, rfl⟩
          show (zI κ_4 nuLength a0).toNatClampNeg = _
          rw [this, e1.1]
          rfl
        · have e9 : x38_3.toNatClampNeg = x38_3.toInt.toNat := by omega
          rw [fin.2.2, rs, e9, J38.1]
          rfl
    · skip
      rw [is, lei] at c1
      have lj := p2.2.2 x38_4.toNatClampNeg (by omega)
      have hj := ihi (zA κ (zR κ nuLimbs a1) x38_4.toNatClampNeg)
      have kl := cnk lj
      have cb := J38.2.1
      have m1 : (zA κ (zR κ nuLimbs a1) x38_4.toNatClampNeg).toNatClampNeg * 2 ^ a2.toInt.toNat ≤ 2147483647 * 1073741824 := Nat.mul_le_mul (by omega) q2
      have e5 := cn1 (x := x38_4) k38.1 (by omega)
      refine ⟨?_, ?_⟩
      · rw [u.2.1, u.2.2.2, inb_iff]; omega  -- b4
      intro x6 hx6
      rw [u.2.1, u.2.2.1] at hx6
      have b1 : (zA κ (zR κ nuLimbs a1) x38_4.toNatClampNeg).toInt64.toInt = (zA κ (zR κ nuLimbs a1) x38_4.toNatClampNeg).toInt := Int32.toInt_toInt64 _
      have b3 : x38_3.toInt64.toInt = x38_3.toInt := Int32.toInt_toInt64 _
      have n1 : (zA κ (zR κ nuLimbs a1) x38_4.toNatClampNeg).toInt64.toInt.toNat = (zA κ (zR κ nuLimbs a1) x38_4.toNatClampNeg).toNatClampNeg := by omega
      have s1 := j_shl (x := (zA κ (zR κ nuLimbs a1) x38_4.toNatClampNeg).toInt64) (s := a2) (by omega) (by omega) (by omega) (by rw [n1, es]; omega)
      rw [n1, es] at s1
      have s2 := j_orr (k := a2.toInt.toNat) (c := (zA κ (zR κ nuLimbs a1) x38_4.toNatClampNeg).toNatClampNeg) (a := x38_3.toInt64) (b := (zA κ (zR κ nuLimbs a1) x38_4.toNatClampNeg).toInt64 <<< (a2.toInt64 &&& 63)) (by omega) (by omega) (by omega) (by rw [s1]; rfl) (by rw [s1]; omega)
      rw [← hx6, s1, b3] at s2
      have e6 : x6.toInt = (((zA κ (zR κ nuLimbs a1) x38_4.toNatClampNeg).toNatClampNeg * 2 ^ a2.toInt.toNat + x38_3.toInt.toNat : Nat) : Int) := by omega
      have f1 := (j_and (x := x6)).2
      have f2 := j_shr (x := x6) (by omega)
      have f3 := j_i32 (x := (x6.toUInt64 >>> ((31 : Int32).toInt64.toUInt64 &&& Int64.toUInt64 63)).toInt64) (by rw [f2]; omega) (by rw [f2]; omega)
      refine ⟨?_, ?_⟩
      · rw [rs, ns, inb_iff]; omega  -- b5
      intro κ_7 hκ_7
      intro W8
      intro x9 hx9
      intro x10 hx10
      refine ⟨_, ?_, rfl, ?_⟩
      · rw [hn38, hx10, e5.2]; omega  -- d6
      · rw [f2, ← hx9] at f3
        obtain ⟨u1, u2, u3⟩ := nu_u W38 T38_0 hκ_7
        rw [rs] at u2
        have s := sfI_s (x := (x6 &&& 2147483647).toInt32) J38 (by rw [f1, e6]) u2
        have ec : x9.toInt.toNat = ((zA κ (zR κ nuLimbs a1) x38_4.toNatClampNeg).toNatClampNeg * 2 ^ a2.toInt.toNat + x38_3.toInt.toNat) / 2147483648 := by omega
        rw [← ec] at s
        rw [hx10]
        exact ⟨rfl, rfl, rfl, E38.tr u1, by rw [e5.2]; omega, by omega, by rw [e5.1]; exact s⟩
  have e1 := cn1 (x := zI κ nuLength a1) lb.1 (by omega)
  have oN := W.n (ty_nuLimbs W Ta0)
  refine ⟨fun c11 => ?_, fun c11 => ?_⟩
  · skip
    refine hj33 _ _ _ _ W ?_ ?_ ?_
    · exact Ta0  -- t8
    · exact Ta1  -- t9
    · rw [lei, ofn_i oN, e1.2] at c11
      exact ⟨rfl, rfl, rfl, zF.rf, rfl, p1, by omega⟩
  · skip
    refine ⟨?_, ?_⟩
    · decide  -- b11
    rw [lei, ofn_i oN, e1.2] at c11
    have t2 : (2 : Int32).toInt = 2 := rfl
    have d := div_i (y := 2) lb.1 (by decide)
    rw [t2] at d
    have e2 : (zI κ nuLength a1 + zI κ nuLength a1 / 2).toInt = (zI κ nuLength a1).toInt + (zI κ nuLength a1).toInt / 2 := by rw [add_i (by rw [d]; omega) (by rw [d]; omega), d]
    have hf : (zI κ nuLength a1 + zI κ nuLength a1 / 2 + 2).toInt = (zI κ nuLength a1).toInt + (zI κ nuLength a1).toInt / 2 + 2 := by rw [add_i (by rw [e2, t2]; omega) (by rw [e2, t2]; omega), e2, t2]
    have kx := cnk (x := zI κ nuLength a1 + zI κ nuLength a1 / 2 + 2) (by omega)
    refine ⟨?_, ?_⟩
    · exact ⟨by rw [lei, t0i]; omega, by omega⟩  -- b12
    intro κ_12 hκ_12
    intro W13
    refine ⟨?_, ?_⟩
    · rw [hκ_12]; exact if_pos rfl  -- b13
    intro κ_14 hκ_14
    intro W15
    refine hj33 _ _ _ _ W15 ?_ ?_ ?_
    · have k1 := nu_c2 (o := zN κ (zR κ nuLimbs a0)) (n := (zI κ nuLength a1 + zI κ nuLength a1 / 2 + 2).toNatClampNeg) (by omega) (by omega)
      exact (we_gr W (show zr nuLimbs = some 20 by decide +kernel) (by decide) Ta0 hκ_12 hκ_14 k1.1 k1.2).1.t Ta0 (by decide)
    · have k1 := nu_c2 (o := zN κ (zR κ nuLimbs a0)) (n := (zI κ nuLength a1 + zI κ nuLength a1 / 2 + 2).toNatClampNeg) (by omega) (by omega)
      exact (we_gr W (show zr nuLimbs = some 20 by decide +kernel) (by decide) Ta0 hκ_12 hκ_14 k1.1 k1.2).1.t Ta1 (by decide)
    · have k1 := nu_c2 (o := zN κ (zR κ nuLimbs a0)) (n := (zI κ nuLength a1 + zI κ nuLength a1 / 2 + 2).toNatClampNeg) (by omega) (by omega)
      obtain ⟨F1, u1, u2, u3, u4, u5⟩ := we_gr W (show zr nuLimbs = some 20 by decide +kernel) (by decide) Ta0 hκ_12 hκ_14 k1.1 k1.2
      refine ⟨rfl, rfl, rfl, F1.mono (fun f x z => ⟨z.2, Or.inl z.1⟩), u1, ?_, ?_⟩
      · rw [u3, u4]; omega
      · rw [u3, u4]; omega

theorem sd_ar {a x q r : Nat} (hq : 0 < q) (hB : q * r = 2147483648) (hx : x < 2147483648) : q * ((a * 2147483648 + x) / q % 2147483648) + x % q = a % q * 2147483648 + x := by
  have e1 : a * 2147483648 + x = x + q * (a * r) := by rw [← hB, Nat.mul_left_comm]; omega
  rw [e1, Nat.add_mul_div_left _ _ hq]
  have m := Nat.div_add_mod a q
  have d := Nat.div_add_mod x q
  have lt := Nat.mod_lt a hq
  have lx : x / q < r := by
    rw [Nat.div_lt_iff_lt_mul hq, Nat.mul_comm, hB]
    exact hx
  have e2 : a * r = a / q * 2147483648 + a % q * r := by
    have : a * r = (q * (a / q) + a % q) * r := by rw [m]
    rw [this, Nat.add_mul, Nat.mul_comm q, Nat.mul_assoc, hB]
  have e3 : (x / q + a * r) % 2147483648 = x / q + a % q * r := by
    rw [e2]
    have b1 := Nat.mul_le_mul_right r lt
    rw [Nat.succ_mul, hB] at b1
    have : x / q + (a / q * 2147483648 + a % q * r) = x / q + a % q * r + a / q * 2147483648 := by omega
    rw [this, Nat.add_mul_mod_self_right]
    exact Nat.mod_eq_of_lt (by omega)
  rw [e3, Nat.mul_add, Nat.mul_left_comm q, hB]
  omega
/-- a number moved down, limb by limb -/
def sdI (X Y : Nat → Int32) (q m i : Nat) : Prop := q * uV Y i + (X 0).toNatClampNeg % q = uV X i + (if i < m then (X i).toNatClampNeg % q else 0) * 2147483648 ^ i ∧ (∀ j, j < m → 0 ≤ (Y j).toInt) ∧ ∀ j, i ≤ j → Y j = X j
theorem sdI_s {X Y Y' : Nat → Int32} {q r m i : Nat} {x : Int32} (h : sdI X Y q m i) (hq : 0 < q) (hB : q * r = 2147483648) (hi : i < m) (ex : x.toInt = (((if i + 1 < m then (X (i + 1)).toNatClampNeg else 0) * 2147483648 + (X i).toNatClampNeg) / q : Nat) % 2147483648) (e : Y' = upd Y i x) : sdI X Y' q m (i + 1) := by
  obtain ⟨h1, h2, h3⟩ := h
  have l := lim31 (X i)
  have kx := cnk (x := x) (by omega)
  have mi : Y' i = x := by rw [e]; exact if_pos rfl
  have mj : ∀ j, j ≠ i → Y' j = Y j := fun j hj => by rw [e]; exact if_neg hj
  have ar := sd_ar (a := if i + 1 < m then (X (i + 1)).toNatClampNeg else 0) hq hB l
  have e9 : x.toNatClampNeg = ((if i + 1 < m then (X (i + 1)).toNatClampNeg else 0) * 2147483648 + (X i).toNatClampNeg) / q % 2147483648 := by omega
  rw [← e9] at ar
  refine ⟨?_, fun j hj => ?_, fun j hj => ?_⟩
  · show q * (uV Y' i + (Y' i).toNatClampNeg * 2147483648 ^ i) + _ = uV X i + (X i).toNatClampNeg * 2147483648 ^ i + _
    rw [uV_e (g := Y) (fun j hj => mj j (Nat.ne_of_lt hj)), mi, p31_s, Nat.mul_add, ← Nat.mul_assoc, ← Nat.mul_assoc]
    rw [if_pos hi] at h1
    have ar2 : (q * x.toNatClampNeg + (X i).toNatClampNeg % q) * 2147483648 ^ i = ((if i + 1 < m then (X (i + 1)).toNatClampNeg else 0) % q * 2147483648 + (X i).toNatClampNeg) * 2147483648 ^ i := by rw [ar]
    rw [Nat.add_mul, Nat.add_mul] at ar2
    have e8 : (if i + 1 < m then (X (i + 1)).toNatClampNeg else 0) % q = if i + 1 < m then (X (i + 1)).toNatClampNeg % q else 0 := by
      split
      · rfl
      · exact Nat.zero_mod _
    rw [e8] at ar2
    omega
  · by_cases z : j = i
    · rw [z, mi]; omega
    · rw [mj j z]; exact h2 j hj
  · rw [mj j (by omega)]; exact h3 j (by omega)
theorem sdI_e {X Y : Nat → Int32} {q m : Nat} (hq : 0 < q) (h : sdI X Y q m m) : uV Y m = uV X m / q := by
  obtain ⟨h1, _, _⟩ := h
  rw [if_neg (Nat.lt_irrefl _), Nat.zero_mul, Nat.add_zero] at h1
  have l := Nat.mod_lt (X 0).toNatClampNeg hq
  rw [← h1, Nat.mul_comm, Nat.add_comm, Nat.add_mul_div_right _ _ hq, Nat.div_eq_of_lt l, Nat.zero_add]
theorem Nu_shiftBack_c {C : zC} {n0 : Nat} {a0 : Nat} {a1 : Int32} {a2 : Int32} {κ : zS} {Q : zS → Prop} (W : zW C n0 κ) (Ta0 : zT κ a0 = 8) (c9 : Nat) (hp : (1 ≤ a1.toInt ∧ a1.toInt ≤ (zN κ (zR κ nuLimbs a0))) ∧ (2 ≤ (zN κ (zR κ nuLimbs a0)) ∧ (zN κ (zR κ nuLimbs a0)) ≤ c9) ∧ (0 ≤ a2.toInt ∧ a2.toInt ≤ 30) ∧ ∀ i : Nat, (i : Int) < a1.toInt → 0 ≤ (zA κ (zR κ nuLimbs a0) i).toInt) (h : ∀ (κ' : zS), (zF (nuF a0) κ κ' ∧ nuI κ' a0 c9 ∧ nuN κ' a0 = uV (zA κ (zR κ nuLimbs a0)) a1.toInt.toNat / 2 ^ a2.toInt.toNat) → Q κ') : zRun C 1 mNu_shiftBack [.ref a0, .int a1, .int a2] κ (oV Q noX) := by
  refine Nu_shiftBack_run W Ta0 ?_
  replace W := W.lo (Nat.le_trans W.1.2.1 W.1.2.2) (Nat.le_refl (zn κ))
  unfold w_Nu_shiftBack_0
  obtain ⟨p1, p2, p3, p4⟩ := hp
  have oN := W.n (ty_nuLimbs W Ta0)
  have q1 : 0 < 2 ^ a2.toInt.toNat := Nat.pow_pos (by decide)
  have hB : 2 ^ a2.toInt.toNat * 2 ^ (31 - a2.toInt.toNat) = 2147483648 := by
    rw [← Nat.pow_add]
    have : a2.toInt.toNat + (31 - a2.toInt.toNat) = 31 := by omega
    rw [this]
  have ks := cnk (x := a2) (by omega)
  have es : a2.toNatClampNeg = a2.toInt.toNat := by omega
  have ka := cnk (x := a1) (by omega)
  have ha := ihi a1
  intro κ_1 hκ_1
  intro W2
  have em : (if Int32.ofNat (zN κ (zR κ nuLimbs a0)) < a1 then Int32.ofNat (zN κ (zR κ nuLimbs a0)) else a1) = a1 := if_neg (by rw [lti, ofn_i oN]; omega)
  rw [em] at hκ_1
  have R1 : zR κ_1 = zR κ := by rw [hκ_1]; rfl
  have N1 : zN κ_1 = zN κ := by rw [hκ_1]; rfl
  have A1 : zA κ_1 = zA κ := by rw [hκ_1]; rfl
  have I1 : zI κ_1 nuLength a0 = a1 := by rw [hκ_1]; exact if_pos ⟨rfl, rfl⟩
  have Z1 : zF (nuF a0) κ κ_1 := by rw [hκ_1]; exact zF_ui ⟨rfl, Or.inr rfl⟩
  unfold w_Nu_shiftBack_15
  refine ⟨fun n l0 l2 l3 τ => n = (a1.toInt - l3.toInt).toNat ∧ (a0 = l0 ∧ a2 = l2 ∧ nuE κ_1 τ a0 ∧ (0 ≤ l3.toInt ∧ l3.toInt ≤ a1.toInt) ∧ sdI (zA κ (zR κ nuLimbs a0)) (zA τ (zR κ nuLimbs a0)) (2 ^ a2.toInt.toNat) a1.toInt.toNat l3.toNatClampNeg), ⟨_, rfl, ?_⟩, ?_⟩
  · refine ⟨rfl, rfl, nuE.rf, ⟨by decide, by rw [t0i]; omega⟩, ?_, fun j hj => ?_, fun _ _ => by rw [A1]⟩
    · show _ * 0 + _ = 0 + (if 0 < a1.toInt.toNat then _ else 0) * 1
      rw [if_pos (by omega)]
      show _ * 0 + _ = 0 + (zA κ (zR κ nuLimbs a0) 0).toNatClampNeg % _ * 1
      omega
    · rw [A1]; exact p4 j (by omega)
  rintro n15 _ _ x15_3 κ15 W15 T15_0 ⟨hn15, rfl, rfl, i15⟩
  obtain ⟨E15, k15, J15⟩ := i15
  have rs : zR κ15 = zR κ := E15.2.1.trans R1
  have is : zI κ15 nuLength a0 = a1 := by rw [E15.2.2.1]; exact I1
  have ns : zN κ15 = zN κ := E15.2.2.2.trans N1
  have kn := cnk k15.1
  have hj46 : ∀ (l0 : Nat) (l2 : Int32) (l3 : Int32) (s0 : Int64) (τ : zS), zW C (zn κ) τ → zT τ l0 = 8 → (a0 = l0 ∧ a2 = l2 ∧ κ15 = τ ∧ x15_3 = l3 ∧ x15_3.toInt < a1.toInt ∧ 0 ≤ s0.toInt ∧ s0.toInt.toNat = (if x15_3.toNatClampNeg + 1 < a1.toInt.toNat then (zA κ (zR κ nuLimbs a0) (x15_3.toNatClampNeg + 1)).toNatClampNeg else 0)) → w_Nu_shiftBack_46 C (zn κ) Q (fun (l0' : Nat) (l2' : Int32) (l3' : Int32) (τ : zS) => ∃ k < n15, (fun (n : Nat) (l0 : Nat) (l2 : Int32) (l3 : Int32) (τ : zS) => n = (a1.toInt - l3.toInt).toNat ∧ (a0 = l0 ∧ a2 = l2 ∧ nuE κ_1 τ a0 ∧ (0 ≤ l3.toInt ∧ l3.toInt ≤ a1.toInt) ∧ sdI (zA κ (zR κ nuLimbs a0)) (zA τ (zR κ nuLimbs a0)) (2 ^ a2.toInt.toNat) a1.toInt.toNat l3.toNatClampNeg)) k l0' l2' l3' τ) l0 l2 l3 s0 τ := by
    rintro _ _ y46_3 y46_s0 τ46 W46 T46_0 ⟨rfl, rfl, j46⟩
    unfold w_Nu_shiftBack_46
    obtain ⟨rfl, rfl, l46, s46, e46⟩ := j46
    have jx := J15.2.2 x15_3.toNatClampNeg (Nat.le_refl _)
    have lj := p4 x15_3.toNatClampNeg (by omega)
    have kl := cnk lj
    have e5 := cn1 (x := x15_3) k15.1 (by omega)
    have sl : y46_s0.toInt.toNat < 2147483648 := by
      rw [e46]
      split
      · exact lim31 _
      · decide
    refine ⟨?_, ?_⟩
    · rw [rs, ns, inb_iff]; omega  -- b2
    refine ⟨?_, ?_⟩
    · rw [rs, ns, inb_iff]; omega  -- b3
    intro κ_3 hκ_3
    intro W4
    intro x5 hx5
    refine ⟨_, ?_, rfl, ?_⟩
    · rw [hn15, hx5, e5.2]; omega  -- d4
    · rw [rs, jx] at hκ_3
      have tt := j_top (a := y46_s0) (y := zA κ (zR κ nuLimbs a0) x15_3.toNatClampNeg) s46 (by omega) lj
      have hl := lim31 (zA κ (zR κ nuLimbs a0) x15_3.toNatClampNeg)
      have s1 := j_shrv (x := (y46_s0 <<< ((31 : Int32).toInt64 &&& 63)) ||| (zA κ (zR κ nuLimbs a0) x15_3.toNatClampNeg).toInt64) (s := a2) (by rw [tt]; omega) (by omega) (by omega)
      have f1 := (j_and (x := (((y46_s0 <<< ((31 : Int32).toInt64 &&& 63)) ||| (zA κ (zR κ nuLimbs a0) x15_3.toNatClampNeg).toInt64).toUInt64 >>> (a2.toInt64.toUInt64 &&& Int64.toUInt64 63)).toInt64)).2
      have e9 : (y46_s0.toInt * 2147483648 + (zA κ (zR κ nuLimbs a0) x15_3.toNatClampNeg).toInt).toNat = y46_s0.toInt.toNat * 2147483648 + (zA κ (zR κ nuLimbs a0) x15_3.toNatClampNeg).toNatClampNeg := by omega
      rw [tt, es, e9, e46] at s1
      rw [s1] at f1
      have hκ' : κ_3 = ua κ15 (zR κ15 nuLimbs a0) x15_3.toNatClampNeg (((((y46_s0 <<< ((31 : Int32).toInt64 &&& 63)) ||| (zA κ (zR κ nuLimbs a0) x15_3.toNatClampNeg).toInt64).toUInt64 >>> (a2.toInt64.toUInt64 &&& Int64.toUInt64 63)).toInt64 &&& 2147483647).toInt32) := by rw [rs]; exact hκ_3
      obtain ⟨u1, u2, u3⟩ := nu_u W15 T15_0 hκ'
      rw [rs] at u2
      have s := sdI_s J15 q1 hB (by omega) f1 u2
      rw [hx5]
      exact ⟨rfl, rfl, E15.tr u1, by rw [e5.2]; omega, by rw [e5.1]; exact s⟩
  have fin : zI κ15 nuLength a0 ≤ x15_3 → nuB κ15 a0 c9 ∧ nuN κ15 a0 = uV (zA κ (zR κ nuLimbs a0)) a1.toInt.toNat / 2 ^ a2.toInt.toNat := fun c6 => by
    rw [is, lei] at c6
    have kk : x15_3.toNatClampNeg = a1.toInt.toNat := by omega
    rw [kk] at J15
    refine ⟨⟨?_, ?_, fun i hi => ?_⟩, ?_⟩
    · rw [rs, ns, is]; omega
    · rw [rs, ns]; exact p2
    · rw [is] at hi
      rw [rs]
      exact J15.2.1 i (by omega)
    · have ek : a1.toNatClampNeg = a1.toInt.toNat := by omega
      unfold nuN
      rw [is, rs, ek]
      exact sdI_e q1 J15
  refine ⟨fun c6 => ?_, fun c6 => ?_⟩
  · skip
    unfold w_Nu_shiftBack_80
    refine ⟨fun n l0 τ => n = ((zI τ nuLength a0).toInt).toNat ∧ (a0 = l0 ∧ nuR κ15 τ a0), ⟨_, rfl, ?_⟩, ?_⟩
    · have B := (fin c6).1
      exact ⟨rfl, nuT.rf, ⟨B.1.1, Int.le_refl _⟩, rfl⟩
    rintro n80 _ κ80 W80 T80_0 ⟨hn80, rfl, i80⟩
    have lB := (fin c6).1.1
    have l80 := i80.2.1
    refine ⟨fun c7 => ?_, fun c7 => ?_⟩
    · skip
      refine h _ ?_
      · rw [lei, t0i] at c7
        have q := nuR_e i80 (fin c6).1 (Or.inl c7)
        exact ⟨(Z1.tr E15.1).tr i80.1.1, q.1, by rw [q.2.1]; exact (fin c6).2⟩
    · skip
      rw [lei, t0i] at c7
      have d := dec_i (x := zI κ80 nuLength a0) (by omega)
      refine ⟨?_, ?_⟩
      · rw [i80.1.2.1, i80.1.2.2.2.1, inb_iff, d]; omega  -- b8
      refine ⟨fun c8 => ?_, fun c8 => ?_⟩
      · skip
        refine h _ ?_
        · have q := nuR_e i80 (fin c6).1 (Or.inr c8)
          exact ⟨(Z1.tr E15.1).tr i80.1.1, q.1, by rw [q.2.1]; exact (fin c6).2⟩
      · skip
        intro κ_9 hκ_9
        intro W10
        refine ⟨_, ?_, rfl, ?_⟩
        · have s := nuR_s i80 (by omega) c8 hκ_9
          rw [hn80]; omega
        · exact ⟨rfl, (nuR_s i80 (by omega) c8 hκ_9).1⟩  -- i11
  · skip
    refine ⟨fun c11 => ?_, fun c11 => ?_⟩
    · skip
      refine hj46 _ _ _ _ _ W15 ?_ ?_
      · exact T15_0  -- t12
      · rw [is, lei] at c6
        have e5 := cn1 (x := x15_3) k15.1 (by omega)
        rw [is, lei, e5.2] at c11
        refine ⟨rfl, rfl, rfl, rfl, by omega, by decide, ?_⟩
        rw [if_neg (by omega)]
        rfl
    · skip
      rw [is, lei] at c6
      have e5 := cn1 (x := x15_3) k15.1 (by omega)
      rw [is, lei, e5.2] at c11
      refine ⟨?_, ?_⟩
      · rw [rs, ns, inb_iff, e5.2]; omega  -- b14
      refine hj46 _ _ _ _ _ W15 ?_ ?_
      · exact T15_0  -- t15
      · have jx := J15.2.2 (x15_3.toNatClampNeg + 1) (by omega)
        have lj := p4 (x15_3.toNatClampNeg + 1) (by omega)
        have kl := cnk lj
        have b1 : (zA κ (zR κ nuLimbs a0) (x15_3.toNatClampNeg + 1)).toInt64.toInt = (zA κ (zR κ nuLimbs a0) (x15_3.toNatClampNeg + 1)).toInt := Int32.toInt_toInt64 _
        refine ⟨rfl, rfl, rfl, rfl, by omega, ?_, ?_⟩
        · rw [rs, e5.1, jx, b1]; exact lj
        · rw [rs, e5.1, jx, b1, if_pos (by omega)]
          omega

end
section
set_option maxHeartbeats 1600000
/-! the class: Num's takeAt -/
/-- limbs from a place on -/
def uW (X : Nat → Int32) (P : Nat) : Nat → Int32 := fun j => X (P + j)
theorem uW_u {X : Nat → Int32} {P i : Nat} {x : Int32} : uW (upd X (P + i) x) P = upd (uW X P) i x := by
  funext j
  show (if P + j = P + i then x else X (P + j)) = if j = i then x else X (P + j)
  by_cases z : j = i
  · rw [if_pos z, if_pos (by omega)]
  · rw [if_neg z, if_neg (by omega)]
/-- a multiple taken away, limb by limb -/
def tkI (X Y D : Nat → Int32) (P g i c b : Nat) : Prop := uV (uW Y P) i + g * uV D i = uV (uW X P) i + (c + b) * 2147483648 ^ i ∧ (c < 2147483648 ∧ b ≤ 1) ∧ (∀ j, j < i → 0 ≤ (uW Y P j).toInt) ∧ ∀ j, (j < P ∨ P + i ≤ j) → Y j = X j
theorem ar31t {p A G S c b x y w v d g : Nat} (h : A + G = S + (c + b) * p) (hx : x + v % 2147483648 + b = y + w * 2147483648) (hv : v = g * d + c) : A + x * p + (G + g * d * p) = S + y * p + (v / 2147483648 + w) * (2147483648 * p) := by
  have m := Nat.div_add_mod v 2147483648
  have e1 : (x + v % 2147483648 + b) * p = (y + w * 2147483648) * p := by rw [hx]
  have e2 : (2147483648 * (v / 2147483648) + v % 2147483648) * p = (g * d + c) * p := by rw [m, hv]
  rw [Nat.add_mul, Nat.add_mul, Nat.add_mul] at e1
  rw [Nat.add_mul, Nat.add_mul] at e2
  have f : (v / 2147483648 + w) * (2147483648 * p) = 2147483648 * (v / 2147483648) * p + w * 2147483648 * p := by
    rw [Nat.add_mul, ← Nat.mul_assoc, ← Nat.mul_assoc, Nat.mul_comm (v / 2147483648)]
  rw [f]
  rw [Nat.add_mul] at h
  omega
theorem tkI_s {X Y Y' D : Nat → Int32} {P g i c b v w : Nat} {x : Int32} (h : tkI X Y D P g i c b) (hg : g < 2147483648) (hv : v = g * (D i).toNatClampNeg + c) (hx : 0 ≤ x.toInt) (hw : w ≤ 1) (ex : x.toNatClampNeg + v % 2147483648 + b = (X (P + i)).toNatClampNeg + w * 2147483648) (e : Y' = upd Y (P + i) x) : tkI X Y' D P g (i + 1) (v / 2147483648) w := by
  obtain ⟨h1, h2, h3, h4⟩ := h
  have l1 := lim31 (D i)
  have mm : g * (D i).toNatClampNeg ≤ 2147483647 * 2147483647 := Nat.mul_le_mul (by omega) (by omega)
  have ew : uW Y' P = upd (uW Y P) i x := by rw [e, uW_u]
  have mi : uW Y' P i = x := by rw [ew]; exact if_pos rfl
  have mj : ∀ j, j ≠ i → uW Y' P j = uW Y P j := fun j hj => by rw [ew]; exact if_neg hj
  refine ⟨?_, ⟨by omega, hw⟩, fun j hj => ?_, fun j hj => ?_⟩
  · show uV (uW Y' P) i + (uW Y' P i).toNatClampNeg * 2147483648 ^ i + g * (uV D i + (D i).toNatClampNeg * 2147483648 ^ i) = uV (uW X P) i + (X (P + i)).toNatClampNeg * 2147483648 ^ i + _
    rw [uV_e (g := uW Y P) (fun j hj => mj j (Nat.ne_of_lt hj)), mi, p31_s, Nat.mul_add, ← Nat.mul_assoc g]
    exact ar31t h1 ex hv
  · by_cases z : j = i
    · rw [z, mi]; exact hx
    · rw [mj j z]; exact h3 j (by omega)
  · rw [e]
    exact (if_neg (by omega)).trans (h4 j (by omega))
theorem uq_p {z t a b p : Nat} (h : z + a * p = t + b * p) (hz : z < p) (ht : t < p) : z = t := by
  have e : (z + a * p) % p = (t + b * p) % p := by rw [h]
  rw [Nat.add_mul_mod_self_right, Nat.add_mul_mod_self_right, Nat.mod_eq_of_lt hz, Nat.mod_eq_of_lt ht] at e
  exact e
theorem dm_u {R S g r : Nat} (h : r + g * S = R) (l : r < S) : R / S = g ∧ R % S = r := by
  have u := (Nat.div_mod_unique (a := R) (b := S) (c := r) (d := g) (by omega)).mpr ⟨by rw [Nat.mul_comm]; exact h, l⟩
  exact u
/-- enough is there -/
theorem tkX_a {X Y Y' D : Nat → Int32} {P m g c b : Nat} {x : Int32} (h : tkI X Y D P g m c b) (hS : 0 < uV D m) (hq : uV (uW X P) (m + 1) / uV D m ≤ g) (hx : 0 ≤ x.toInt) (ex : x.toNatClampNeg + c + b = (X (P + m)).toNatClampNeg) (e : Y' = upd Y (P + m) x) : uV (uW X P) (m + 1) / uV D m = g ∧ uV (uW Y' P) (m + 1) = uV (uW X P) (m + 1) % uV D m := by
  obtain ⟨h1, h2, h3, h4⟩ := h
  have ew : uW Y' P = upd (uW Y P) m x := by rw [e, uW_u]
  have mi : uW Y' P m = x := by rw [ew]; exact if_pos rfl
  have v : uV (uW Y' P) (m + 1) = uV (uW Y P) m + x.toNatClampNeg * 2147483648 ^ m := by
    show uV (uW Y' P) m + (uW Y' P m).toNatClampNeg * _ = _
    rw [uV_e (g := uW Y P) (fun j hj => by rw [ew]; exact if_neg (Nat.ne_of_lt hj)), mi]
  have r : uV (uW X P) (m + 1) = uV (uW X P) m + (X (P + m)).toNatClampNeg * 2147483648 ^ m := rfl
  have e2 : (x.toNatClampNeg + c + b) * 2147483648 ^ m = (X (P + m)).toNatClampNeg * 2147483648 ^ m := by rw [ex]
  rw [Nat.add_mul, Nat.add_mul] at e2
  rw [Nat.add_mul] at h1
  have fin : uV (uW Y' P) (m + 1) + g * uV D m = uV (uW X P) (m + 1) := by omega
  have lt : uV (uW X P) (m + 1) < (g + 1) * uV D m := by
    have := Nat.lt_div_mul_add (a := uV (uW X P) (m + 1)) hS
    have m2 := Nat.mul_le_mul_right (uV D m) hq
    rw [Nat.add_mul]
    omega
  rw [Nat.add_mul] at lt
  have u := dm_u fin (by omega)
  exact ⟨u.1, u.2.symm⟩
/-- one too many was taken -/
theorem tkX_b {X Y Z Z' D : Nat → Int32} {P m g c b o : Nat} (h : tkI X Y D P g m c b) (hS : 0 < uV D m) (hq : g ≤ uV (uW X P) (m + 1) / uV D m + 1) (hn : (X (P + m)).toNatClampNeg < c + b) (a : adI (uW Y P) D (uW Z P) (m + 1) m o) (e : Z' = upd Z (P + m) 0) : uV (uW X P) (m + 1) / uV D m + 1 = g ∧ uV (uW Z' P) (m + 1) = uV (uW X P) (m + 1) % uV D m := by
  obtain ⟨h1, h2, h3, h4⟩ := h
  obtain ⟨a1, a2, a3, a4⟩ := a
  have ew : uW Z' P = upd (uW Z P) m 0 := by rw [e, uW_u]
  have mi : uW Z' P m = 0 := by rw [ew]; exact if_pos rfl
  have v : uV (uW Z' P) (m + 1) = uV (uW Z P) m := by
    show uV (uW Z' P) m + (uW Z' P m).toNatClampNeg * _ = _
    rw [uV_e (g := uW Z P) (fun j hj => by rw [ew]; exact if_neg (Nat.ne_of_lt hj)), mi]
    show _ + 0 * _ = _
    omega
  have r : uV (uW X P) (m + 1) = uV (uW X P) m + (X (P + m)).toNatClampNeg * 2147483648 ^ m := rfl
  have lY := uV_lt (f := uW Y P) (n := m)
  have lZ := uV_lt (f := uW Z P) (n := m)
  have lS := uV_lt (f := D) (n := m)
  have m1 := Nat.mul_le_mul_right (2147483648 ^ m) hn
  rw [Nat.succ_mul] at m1
  have gt : uV (uW X P) (m + 1) < g * uV D m := by omega
  have q1 : uV (uW X P) (m + 1) / uV D m < g := by
    rw [Nat.div_lt_iff_lt_mul hS]
    exact gt
  have eg : uV (uW X P) (m + 1) / uV D m + 1 = g := by omega
  refine ⟨eg, ?_⟩
  have dm := Nat.div_add_mod (uV (uW X P) (m + 1)) (uV D m)
  have ml := Nat.mod_lt (uV (uW X P) (m + 1)) hS
  rw [← eg, Nat.add_mul, Nat.mul_comm _ (uV D m)] at h1
  rw [v]
  refine uq_p (a := o + (X (P + m)).toNatClampNeg) (b := c + b) (p := 2147483648 ^ m) ?_ lZ (by omega)
  rw [Nat.add_mul]
  omega
theorem Nu_takeAt_c {C : zC} {n0 : Nat} {a0 : Nat} {a1 : Int32} {a2 : Nat} {a3 : Int64} {a5 : Int32} {κ : zS} {Q : Int64 → zS → Prop} (W : zW C n0 κ) (Ta0 : zT κ a0 = 8) (Ta2 : zT κ a2 = 8) (c9 : Nat) (hp : a0 ≠ a2 ∧ (0 ≤ a1.toInt ∧ 0 ≤ a5.toInt ∧ a1.toInt + a5.toInt < (zN κ (zR κ nuLimbs a0)) ∧ a5.toInt ≤ (zN κ (zR κ nuLimbs a2))) ∧ ((zN κ (zR κ nuLimbs a0)) ≤ c9 ∧ c9 ≤ 30000000) ∧ (0 ≤ a3.toInt ∧ a3.toInt < 2147483648) ∧ (∀ j, j < a5.toInt.toNat + 1 → 0 ≤ (uW (zA κ (zR κ nuLimbs a0)) a1.toInt.toNat j).toInt) ∧ (∀ j, j < a5.toInt.toNat → 0 ≤ (zA κ (zR κ nuLimbs a2) j).toInt) ∧ 0 < uV (zA κ (zR κ nuLimbs a2)) a5.toInt.toNat ∧ uV (uW (zA κ (zR κ nuLimbs a0)) a1.toInt.toNat) (a5.toInt.toNat + 1) / uV (zA κ (zR κ nuLimbs a2)) a5.toInt.toNat ≤ a3.toInt.toNat ∧ a3.toInt.toNat ≤ uV (uW (zA κ (zR κ nuLimbs a0)) a1.toInt.toNat) (a5.toInt.toNat + 1) / uV (zA κ (zR κ nuLimbs a2)) a5.toInt.toNat + 1) (h : ∀ (v : Int64) (κ' : zS), (nuE κ κ' a0 ∧ v.toInt = ((uV (uW (zA κ (zR κ nuLimbs a0)) a1.toInt.toNat) (a5.toInt.toNat + 1) / uV (zA κ (zR κ nuLimbs a2)) a5.toInt.toNat : Nat) : Int) ∧ uV (uW (zA κ' (zR κ nuLimbs a0)) a1.toInt.toNat) (a5.toInt.toNat + 1) = uV (uW (zA κ (zR κ nuLimbs a0)) a1.toInt.toNat) (a5.toInt.toNat + 1) % uV (zA κ (zR κ nuLimbs a2)) a5.toInt.toNat ∧ (∀ j, j < a5.toInt.toNat + 1 → 0 ≤ (uW (zA κ' (zR κ nuLimbs a0)) a1.toInt.toNat j).toInt) ∧ ∀ j, (j < a1.toInt.toNat ∨ a1.toInt.toNat + a5.toInt.toNat < j) → zA κ' (zR κ nuLimbs a0) j = zA κ (zR κ nuLimbs a0) j) → Q v κ') : zRun C 0 mNu_takeAt [.ref a0, .int a1, .ref a2, .long a3, .int a5] κ (oJ Q noX) := by
  refine Nu_takeAt_run W Ta0 Ta2 ?_
  replace W := W.lo (Nat.le_trans W.1.2.1 W.1.2.2) (Nat.le_refl (zn κ))
  unfold w_Nu_takeAt_0
  obtain ⟨ne, p1, p2, p3, p4, p5, p6, p7, p8⟩ := hp
  have nF : ∀ f, ¬ nuF a0 f a2 := fun f z => ne z.1.symm
  have kp := cnk p1.1
  have km := cnk p1.2.1
  have lz := p1.2.2
  have pl : ∀ (x : Int32), 0 ≤ x.toInt → x.toInt ≤ a5.toInt → (a1 + x).toInt = a1.toInt + x.toInt ∧ (a1 + x).toNatClampNeg = a1.toInt.toNat + x.toNatClampNeg := fun x h1 h2 => by
    have e : (a1 + x).toInt = a1.toInt + x.toInt := add_i (by omega) (by omega)
    have k := cnk h1
    have k2 := cnk (x := a1 + x) (by omega)
    omega
  unfold w_Nu_takeAt_9
  refine ⟨fun n l0 l1 l2 l3 l5 l6 l8 l9 τ => n = (a5.toInt - l9.toInt).toNat ∧ (a0 = l0 ∧ a1 = l1 ∧ a2 = l2 ∧ a3 = l3 ∧ a5 = l5 ∧ nuE κ τ a0 ∧ (0 ≤ l9.toInt ∧ l9.toInt ≤ a5.toInt) ∧ (0 ≤ l6.toInt ∧ 0 ≤ l8.toInt) ∧ tkI (zA κ (zR κ nuLimbs a0)) (zA τ (zR κ nuLimbs a0)) (zA κ (zR κ nuLimbs a2)) a1.toInt.toNat a3.toInt.toNat l9.toNatClampNeg l6.toInt.toNat l8.toInt.toNat), ⟨_, rfl, ?_⟩, ?_⟩
  · exact ⟨rfl, rfl, rfl, rfl, rfl, nuE.rf, ⟨by decide, by rw [t0i]; omega⟩, ⟨by decide, by decide⟩, by
      show 0 + _ * 0 = 0 + 0 * _
      omega, ⟨by decide, by decide⟩, fun j hj => absurd hj (Nat.not_lt_zero _), fun _ _ => rfl⟩
  rintro n9 _ _ _ _ _ x9_6 x9_8 x9_9 κ9 W9 T9_0 T9_1 ⟨hn9, rfl, rfl, rfl, rfl, rfl, i9⟩
  obtain ⟨E9, k9, c9b, J9⟩ := i9
  have rs := E9.2.1
  have ns := E9.2.2.2
  have u9 := nu_z W Ta2 E9.1 (nF nuLimbs) (nF nuLength)
  have kn := cnk k9.1
  have cb := J9.2.1
  have hj70 : ∀ (l0 : Nat) (l1 : Int32) (l2 : Nat) (l3 : Int64) (l5 : Int32) (l6 : Int64) (l9 : Int32) (l12 : Int32) (s0 : Int32) (τ : zS), zW C (zn κ) τ → zT τ l0 = 8 → zT τ l2 = 8 → (a0 = l0 ∧ a1 = l1 ∧ a2 = l2 ∧ a3 = l3 ∧ a5 = l5 ∧ κ9 = τ ∧ x9_9 = l9 ∧ x9_9.toInt < a5.toInt ∧ l6.toInt = (((a3.toInt.toNat * (zA κ (zR κ nuLimbs a2) x9_9.toNatClampNeg).toNatClampNeg + x9_6.toInt.toNat) / 2147483648 : Nat) : Int) ∧ l12.toInt = ((zA κ (zR κ nuLimbs a0) (a1.toInt.toNat + x9_9.toNatClampNeg)).toNatClampNeg : Int) - (((a3.toInt.toNat * (zA κ (zR κ nuLimbs a2) x9_9.toNatClampNeg).toNatClampNeg + x9_6.toInt.toNat) % 2147483648 : Nat) : Int) - x9_8.toInt ∧ (s0.toInt = 0 ∧ 0 ≤ l12.toInt ∨ s0.toInt = 1 ∧ l12.toInt < 0)) → w_Nu_takeAt_70 C (zn κ) Q (fun (l0' : Nat) (l1' : Int32) (l2' : Nat) (l3' : Int64) (l5' : Int32) (l6' : Int64) (l8' : Int32) (l9' : Int32) (τ : zS) => ∃ k < n9, (fun (n : Nat) (l0 : Nat) (l1 : Int32) (l2 : Nat) (l3 : Int64) (l5 : Int32) (l6 : Int64) (l8 : Int32) (l9 : Int32) (τ : zS) => n = (a5.toInt - l9.toInt).toNat ∧ (a0 = l0 ∧ a1 = l1 ∧ a2 = l2 ∧ a3 = l3 ∧ a5 = l5 ∧ nuE κ τ a0 ∧ (0 ≤ l9.toInt ∧ l9.toInt ≤ a5.toInt) ∧ (0 ≤ l6.toInt ∧ 0 ≤ l8.toInt) ∧ tkI (zA κ (zR κ nuLimbs a0)) (zA τ (zR κ nuLimbs a0)) (zA κ (zR κ nuLimbs a2)) a1.toInt.toNat a3.toInt.toNat l9.toNatClampNeg l6.toInt.toNat l8.toInt.toNat)) k l0' l1' l2' l3' l5' l6' l8' l9' τ) l0 l1 l2 l3 l5 l6 l9 l12 s0 τ := by
    rintro _ _ _ _ _ y70_6 y70_9 y70_12 y70_s0 τ70 W70 T70_0 T70_1 ⟨rfl, rfl, rfl, rfl, rfl, j70⟩
    unfold w_Nu_takeAt_70
    obtain ⟨rfl, rfl, l70, e70, f70, s70⟩ := j70
    have e5 := cn1 (x := x9_9) k9.1 (by omega)
    have px := pl x9_9 k9.1 k9.2
    refine ⟨?_, ?_⟩
    · rw [rs, ns, inb_iff]; omega  -- b2
    intro κ_1 hκ_1
    intro W2
    intro x3 hx3
    refine ⟨_, ?_, rfl, ?_⟩
    · rw [hn9, hx3, e5.2]; omega  -- d3
    · obtain ⟨v1, v2, v3⟩ := nu_u W9 T9_0 hκ_1
      rw [rs, px.2] at v2
      have f1 := i_and (x := y70_12)
      have kf := cnk (x := y70_12 &&& 2147483647) (by omega)
      have lx := lim31 (zA κ (zR κ nuLimbs a0) (a1.toInt.toNat + x9_9.toNatClampNeg))
      have s := tkI_s (x := y70_12 &&& 2147483647) (w := y70_s0.toInt.toNat) J9 (by omega) rfl (by omega) (by omega) (by omega) v2
      have e6 : y70_6.toInt.toNat = (a3.toInt.toNat * (zA κ (zR κ nuLimbs a2) x9_9.toNatClampNeg).toNatClampNeg + x9_6.toInt.toNat) / 2147483648 := by omega
      rw [← e6] at s
      rw [hx3]
      exact ⟨rfl, rfl, rfl, rfl, rfl, E9.tr v1, by rw [e5.2]; omega, by omega, by rw [e5.1]; exact s⟩
  have pm := pl a5 p1.2.1 (Int.le_refl _)
  have km5 : a5.toNatClampNeg = a5.toInt.toNat := by omega
  have xm0 := p4 a5.toInt.toNat (Nat.lt_succ_self _)
  have xm1 : (zA κ (zR κ nuLimbs a0) (a1.toInt.toNat + a5.toInt.toNat)).toInt = ((zA κ (zR κ nuLimbs a0) (a1.toInt.toNat + a5.toInt.toNat)).toNatClampNeg : Int) := (cnk xm0).symm
  have xl := lim31 (zA κ (zR κ nuLimbs a0) (a1.toInt.toNat + a5.toInt.toNat))
  refine ⟨fun c4 => ?_, fun c4 => ?_⟩
  · skip
    refine ⟨?_, ?_⟩
    · rw [rs, ns, inb_iff]; omega  -- b5
    intro x5 hx5
    rw [lei] at c4
    have kk : x9_9.toNatClampNeg = a5.toInt.toNat := by omega
    rw [kk] at J9
    have xm : zA κ9 (zR κ nuLimbs a0) (a1.toInt.toNat + a5.toInt.toNat) = zA κ (zR κ nuLimbs a0) (a1.toInt.toNat + a5.toInt.toNat) := J9.2.2.2 _ (Or.inr (Nat.le_refl _))
    rw [rs, pm.2, km5, xm] at hx5
    have b1 : (zA κ (zR κ nuLimbs a0) (a1.toInt.toNat + a5.toInt.toNat)).toInt64.toInt = (zA κ (zR κ nuLimbs a0) (a1.toInt.toNat + a5.toInt.toNat)).toInt := Int32.toInt_toInt64 _
    have b3 : x9_8.toInt64.toInt = x9_8.toInt := Int32.toInt_toInt64 _
    have t1 : ((zA κ (zR κ nuLimbs a0) (a1.toInt.toNat + a5.toInt.toNat)).toInt64 - x9_6).toInt = (zA κ (zR κ nuLimbs a0) (a1.toInt.toNat + a5.toInt.toNat)).toInt - x9_6.toInt := by
      rw [jsub_i (by rw [b1]; omega) (by rw [b1]; omega), b1]
    have t5 : x5.toInt = ((zA κ (zR κ nuLimbs a0) (a1.toInt.toNat + a5.toInt.toNat)).toNatClampNeg : Int) - x9_6.toInt - x9_8.toInt := by
      rw [hx5, jsub_i (by rw [t1, b3]; omega) (by rw [t1, b3]; omega), t1, b3, xm1]
    refine ⟨fun c6 => ?_, fun c6 => ?_⟩
    · skip
      unfold w_Nu_takeAt_138
      refine ⟨fun n l0 l1 l2 l3 l5 l11 l12 τ => n = (a5.toInt - l12.toInt).toNat ∧ (a0 = l0 ∧ a1 = l1 ∧ a2 = l2 ∧ a3 = l3 ∧ a5 = l5 ∧ nuE κ τ a0 ∧ (0 ≤ l12.toInt ∧ l12.toInt ≤ a5.toInt) ∧ 0 ≤ l11.toInt ∧ adI (uW (zA κ9 (zR κ nuLimbs a0)) a1.toInt.toNat) (zA κ (zR κ nuLimbs a2)) (uW (zA τ (zR κ nuLimbs a0)) a1.toInt.toNat) (a5.toInt.toNat + 1) l12.toNatClampNeg l11.toInt.toNat ∧ ∀ j, (j < a1.toInt.toNat ∨ a1.toInt.toNat + a5.toInt.toNat ≤ j) → zA τ (zR κ nuLimbs a0) j = zA κ9 (zR κ nuLimbs a0) j), ⟨_, rfl, ?_⟩, ?_⟩
      · exact ⟨rfl, rfl, rfl, rfl, rfl, E9, ⟨by decide, by rw [t0i]; omega⟩, by decide, ⟨by
          show 0 + 0 * _ = 0 + 0
          omega, by decide, fun j hj => absurd hj (Nat.not_lt_zero _), fun _ _ _ => rfl⟩, fun _ _ => rfl⟩
      rintro n138 _ _ _ _ _ x138_11 x138_12 κ138 W138 T138_0 T138_1 ⟨hn138, rfl, rfl, rfl, rfl, rfl, i138⟩
      obtain ⟨E1, k1, c1, J1, O1⟩ := i138
      have rs1 := E1.2.1
      have ns1 := E1.2.2.2
      have u1 := nu_z W Ta2 E1.1 (nF nuLimbs) (nF nuLength)
      have kn1 := cnk k1.1
      have cb1 := J1.2.1
      rw [lg_cmp_lt, jlti] at c6
      have c6' : x5.toInt < 0 := c6
      refine ⟨fun c7 => ?_, fun c7 => ?_⟩
      · skip
        refine ⟨?_, ?_⟩
        · rw [rs1, ns1, inb_iff]; omega  -- b7
        intro κ_8 hκ_8
        intro W9
        refine h _ _ ?_
        · rw [lei] at c7
          have kk1 : x138_12.toNatClampNeg = a5.toInt.toNat := by omega
          rw [kk1] at J1
          obtain ⟨v1, v2, v3⟩ := nu_u W138 T138_0 hκ_8
          rw [rs1, pm.2, km5] at v2
          have fin := tkX_b J9 p6 p8 (by omega) J1 v2
          have t1l : (1 : Int64).toInt = 1 := rfl
          refine ⟨E1.tr v1, ?_, fin.2, fun j hj => ?_, fun j hj => ?_⟩
          · rw [jsub_i (by rw [t1l]; omega) (by rw [t1l]; omega), t1l]
            have := fin.1
            omega
          · rw [v2, uW_u]
            by_cases z : j = a5.toInt.toNat
            · have : upd (uW (zA κ138 (zR κ nuLimbs a0)) a1.toInt.toNat) a5.toInt.toNat 0 j = 0 := if_pos z
              rw [this]; decide
            · have : upd (uW (zA κ138 (zR κ nuLimbs a0)) a1.toInt.toNat) a5.toInt.toNat 0 j = uW (zA κ138 (zR κ nuLimbs a0)) a1.toInt.toNat j := if_neg z
              rw [this]; exact J1.2.2.1 j (by omega)
          · rw [v2]
            refine (if_neg (by omega)).trans ?_
            rw [O1 j (by omega)]
            exact J9.2.2.2 j (by omega)
      · skip
        rw [lei] at c7
        have px := pl x138_12 k1.1 k1.2
        have e5 := cn1 (x := x138_12) k1.1 (by omega)
        have gd := p5 x138_12.toNatClampNeg (by omega)
        have jy := J1.2.2.2 x138_12.toNatClampNeg (Nat.le_refl _) (by omega)
        have gy := J9.2.2.1 x138_12.toNatClampNeg (by omega)
        have jy' : zA κ138 (zR κ nuLimbs a0) (a1.toInt.toNat + x138_12.toNatClampNeg) = uW (zA κ9 (zR κ nuLimbs a0)) a1.toInt.toNat x138_12.toNatClampNeg := jy
        have kd := cnk gd
        have ky := cnk gy
        have ld := lim31 (zA κ (zR κ nuLimbs a2) x138_12.toNatClampNeg)
        have ly := lim31 (uW (zA κ9 (zR κ nuLimbs a0)) a1.toInt.toNat x138_12.toNatClampNeg)
        refine ⟨?_, ?_⟩
        · rw [rs1, ns1, inb_iff]; omega  -- b9
        refine ⟨?_, ?_⟩
        · rw [u1.2.1, u1.2.2.2, inb_iff]; omega  -- b10
        intro x10 hx10
        rw [rs1, px.2, jy', u1.2.2.1] at hx10
        have b2 : (uW (zA κ9 (zR κ nuLimbs a0)) a1.toInt.toNat x138_12.toNatClampNeg).toInt64.toInt = (uW (zA κ9 (zR κ nuLimbs a0)) a1.toInt.toNat x138_12.toNatClampNeg).toInt := Int32.toInt_toInt64 _
        have b4 : (zA κ (zR κ nuLimbs a2) x138_12.toNatClampNeg).toInt64.toInt = (zA κ (zR κ nuLimbs a2) x138_12.toNatClampNeg).toInt := Int32.toInt_toInt64 _
        have b5 : x138_11.toInt64.toInt = x138_11.toInt := Int32.toInt_toInt64 _
        have t2 : ((uW (zA κ9 (zR κ nuLimbs a0)) a1.toInt.toNat x138_12.toNatClampNeg).toInt64 + (zA κ (zR κ nuLimbs a2) x138_12.toNatClampNeg).toInt64).toInt = (uW (zA κ9 (zR κ nuLimbs a0)) a1.toInt.toNat x138_12.toNatClampNeg).toInt + (zA κ (zR κ nuLimbs a2) x138_12.toNatClampNeg).toInt := by
          rw [jadd_i (by rw [b2, b4]; omega) (by rw [b2, b4]; omega), b2, b4]
        have t3 : x10.toInt = (((uW (zA κ9 (zR κ nuLimbs a0)) a1.toInt.toNat x138_12.toNatClampNeg).toNatClampNeg + (zA κ (zR κ nuLimbs a2) x138_12.toNatClampNeg).toNatClampNeg + x138_11.toInt.toNat : Nat) : Int) := by
          rw [hx10, jadd_i (by rw [t2, b5]; omega) (by rw [t2, b5]; omega), t2, b5]
          omega
        have f1 := (j_and (x := x10)).2
        have f2 := j_shr (x := x10) (by omega)
        have f3 := j_i32 (x := (x10.toUInt64 >>> ((31 : Int32).toInt64.toUInt64 &&& Int64.toUInt64 63)).toInt64) (by rw [f2]; omega) (by rw [f2]; omega)
        refine ⟨?_, ?_⟩
        · rw [rs1, ns1, inb_iff]; omega  -- b11
        intro κ_11 hκ_11
        intro W12
        intro x13 hx13
        intro x14 hx14
        refine ⟨_, ?_, rfl, ?_⟩
        · rw [hn138, hx14, e5.2]; omega  -- d12
        · rw [f2, ← hx13] at f3
          obtain ⟨v1, v2, v3⟩ := nu_u W138 T138_0 hκ_11
          rw [rs1, px.2] at v2
          have s := adI_s (x := (x10 &&& 2147483647).toInt32) (X' := uW (zA κ_11 (zR κ nuLimbs a0)) a1.toInt.toNat) J1 (by rw [f1, t3]) (by rw [v2, uW_u])
          have ec : x13.toInt.toNat = ((uW (zA κ9 (zR κ nuLimbs a0)) a1.toInt.toNat x138_12.toNatClampNeg).toNatClampNeg + (zA κ (zR κ nuLimbs a2) x138_12.toNatClampNeg).toNatClampNeg + x138_11.toInt.toNat) / 2147483648 := by omega
          rw [← ec] at s
          rw [hx14]
          exact ⟨rfl, rfl, rfl, rfl, rfl, E1.tr v1, by rw [e5.2]; omega, by omega, by rw [e5.1]; exact s, fun j hj => by
            rw [v2]
            exact (if_neg (by omega)).trans (O1 j hj)⟩
    · skip
      rw [lg_cmp_lt, jlti] at c6
      have c6' : ¬ x5.toInt < 0 := c6
      have g5 := j_i32 (x := x5) (by omega) (by omega)
      have kg := cnk (x := x5.toInt32) (by omega)
      refine ⟨?_, ?_⟩
      · rw [rs, ns, inb_iff]; omega  -- b14
      intro κ_15 hκ_15
      intro W16
      refine h _ _ ?_
      · obtain ⟨v1, v2, v3⟩ := nu_u (by assumption) T9_0 hκ_15
        rw [rs, pm.2, km5] at v2
        have fin := tkX_a J9 p6 p7 (by omega) (by omega) v2
        refine ⟨E9.tr v1, ?_, fin.2, fun j hj => ?_, fun j hj => ?_⟩
        · have := fin.1
          omega
        · rw [v2, uW_u]
          by_cases z : j = a5.toInt.toNat
          · have : upd (uW (zA κ9 (zR κ nuLimbs a0)) a1.toInt.toNat) a5.toInt.toNat x5.toInt32 j = x5.toInt32 := if_pos z
            rw [this]; omega
          · have : upd (uW (zA κ9 (zR κ nuLimbs a0)) a1.toInt.toNat) a5.toInt.toNat x5.toInt32 j = uW (zA κ9 (zR κ nuLimbs a0)) a1.toInt.toNat j := if_neg z
            rw [this]; exact J9.2.2.1 j (by omega)
        · rw [v2]
          refine (if_neg (by omega)).trans ?_
          exact J9.2.2.2 j (by omega)
  · skip
    rw [lei] at c4
    have px := pl x9_9 k9.1 k9.2
    have gd := p5 x9_9.toNatClampNeg (by omega)
    have kd := cnk gd
    have ld := lim31 (zA κ (zR κ nuLimbs a2) x9_9.toNatClampNeg)
    have gx := p4 x9_9.toNatClampNeg (by omega)
    have gx1 : (zA κ (zR κ nuLimbs a0) (a1.toInt.toNat + x9_9.toNatClampNeg)).toInt = ((zA κ (zR κ nuLimbs a0) (a1.toInt.toNat + x9_9.toNatClampNeg)).toNatClampNeg : Int) := (cnk gx).symm
    have xl := lim31 (zA κ (zR κ nuLimbs a0) (a1.toInt.toNat + x9_9.toNatClampNeg))
    have xm : zA κ9 (zR κ nuLimbs a0) (a1.toInt.toNat + x9_9.toNatClampNeg) = zA κ (zR κ nuLimbs a0) (a1.toInt.toNat + x9_9.toNatClampNeg) := J9.2.2.2 _ (Or.inr (Nat.le_refl _))
    have m1 : a3.toInt.toNat * (zA κ (zR κ nuLimbs a2) x9_9.toNatClampNeg).toNatClampNeg ≤ 2147483647 * 2147483647 := Nat.mul_le_mul (by omega) (by omega)
    refine ⟨?_, ?_⟩
    · rw [u9.2.1, u9.2.2.2, inb_iff]; omega  -- b16
    intro x17 hx17
    intro x18 hx18
    rw [u9.2.1, u9.2.2.1] at hx17
    have b4 : (zA κ (zR κ nuLimbs a2) x9_9.toNatClampNeg).toInt64.toInt = (zA κ (zR κ nuLimbs a2) x9_9.toNatClampNeg).toInt := Int32.toInt_toInt64 _
    have em : a3.toInt * (zA κ (zR κ nuLimbs a2) x9_9.toNatClampNeg).toInt = ((a3.toInt.toNat * (zA κ (zR κ nuLimbs a2) x9_9.toNatClampNeg).toNatClampNeg : Nat) : Int) := by
      rw [Int.natCast_mul, kd]
      congr 1
      omega
    have t1 : (a3 * (zA κ (zR κ nuLimbs a2) x9_9.toNatClampNeg).toInt64).toInt = ((a3.toInt.toNat * (zA κ (zR κ nuLimbs a2) x9_9.toNatClampNeg).toNatClampNeg : Nat) : Int) := by
      rw [jmul_i (by rw [b4, em]; omega) (by rw [b4, em]; omega), b4, em]
    have t2 : x17.toInt = ((a3.toInt.toNat * (zA κ (zR κ nuLimbs a2) x9_9.toNatClampNeg).toNatClampNeg + x9_6.toInt.toNat : Nat) : Int) := by
      rw [hx17, jadd_i (by rw [t1]; omega) (by rw [t1]; omega), t1]
      omega
    have f1 := (j_and (x := x17)).2
    have f2 := j_shr (x := x17) (by omega)
    rw [← hx18, t2] at f2
    rw [t2] at f1
    refine ⟨?_, ?_⟩
    · rw [rs, ns, inb_iff]; omega  -- b17
    intro x19 hx19
    rw [rs, px.2, xm] at hx19
    have t3 : (zA κ (zR κ nuLimbs a0) (a1.toInt.toNat + x9_9.toNatClampNeg) - (x17 &&& 2147483647).toInt32).toInt = (zA κ (zR κ nuLimbs a0) (a1.toInt.toNat + x9_9.toNatClampNeg)).toInt - (x17 &&& 2147483647).toInt32.toInt := sub_i (by omega) (by omega)
    have t4 : x19.toInt = ((zA κ (zR κ nuLimbs a0) (a1.toInt.toNat + x9_9.toNatClampNeg)).toNatClampNeg : Int) - (((a3.toInt.toNat * (zA κ (zR κ nuLimbs a2) x9_9.toNatClampNeg).toNatClampNeg + x9_6.toInt.toNat) % 2147483648 : Nat) : Int) - x9_8.toInt := by
      rw [hx19, sub_i (by rw [t3]; omega) (by rw [t3]; omega), t3, f1, gx1]
      omega
    have t6 : x18.toInt = (((a3.toInt.toNat * (zA κ (zR κ nuLimbs a2) x9_9.toNatClampNeg).toNatClampNeg + x9_6.toInt.toNat) / 2147483648 : Nat) : Int) := by
      rw [f2]
      omega
    refine ⟨fun c20 => ?_, fun c20 => ?_⟩
    · skip
      refine hj70 _ _ _ _ _ _ _ _ _ _ W9 ?_ ?_ ?_
      · exact T9_0  -- t18
      · exact T9_1  -- t19
      · rw [lei, t0i] at c20
        exact ⟨rfl, rfl, rfl, rfl, rfl, rfl, rfl, by omega, t6, t4, Or.inl ⟨rfl, c20⟩⟩
    · skip
      refine hj70 _ _ _ _ _ _ _ _ _ _ W9 ?_ ?_ ?_
      · exact T9_0  -- t21
      · exact T9_1  -- t22
      · rw [lei, t0i] at c20
        exact ⟨rfl, rfl, rfl, rfl, rfl, rfl, rfl, by omega, t6, t4, Or.inr ⟨rfl, by omega⟩⟩

end
section
set_option maxHeartbeats 1600000
/-! the class: division, its numbers -/
theorem nuB_mono {κ : zS} {x c d : Nat} (l : c ≤ d) (h : nuB κ x c) : nuB κ x d := ⟨h.1, ⟨h.2.1.1, Nat.le_trans h.2.1.2 l⟩, h.2.2⟩
theorem nuI_mono {κ : zS} {x c d : Nat} (l : c ≤ d) (h : nuI κ x c) : nuI κ x d := ⟨nuB_mono l h.1, h.2⟩
/-- room for limbs -/
abbrev nuC (κ : zS) (x c : Nat) : Prop := 2 ≤ (zN κ (zR κ nuLimbs x)) ∧ (zN κ (zR κ nuLimbs x)) ≤ c
/-- some numbers alone -/
abbrev nuFp (P : Nat → Prop) : Nat → Nat → Prop := fun f b => P b ∧ (f = nuLimbs ∨ f = nuLength)
theorem nuFp_m {P : Nat → Prop} {x : Nat} {κ τ : zS} (h : P x) (Z : zF (nuF x) κ τ) : zF (nuFp P) κ τ := Z.mono (fun f b z => ⟨z.1 ▸ h, z.2⟩)
theorem nuFp_p {P P' : Nat → Prop} {κ τ : zS} (h : ∀ b, P b → P' b) (Z : zF (nuFp P) κ τ) : zF (nuFp P') κ τ := Z.mono (fun f b z => ⟨h b z.1, z.2⟩)
theorem nuFp_r {P : Nat → Prop} {f b : Nat} {κ τ : zS} (Z : zF (nuFp P) κ τ) (h1 : f ≠ nuLimbs) (h2 : f ≠ nuLength) : zR τ f b = zR κ f b := Z.r (fun z => z.2.elim h1 h2)
theorem nuF_r {x f b : Nat} {κ τ : zS} (Z : zF (nuF x) κ τ) (h1 : f ≠ nuLimbs) (h2 : f ≠ nuLength) : zR τ f b = zR κ f b := Z.r (fun z => z.2.elim h1 h2)
theorem nuFp_z {C : zC} {n0 y : Nat} {P : Nat → Prop} {κ τ : zS} (W : zW C n0 κ) (T : zT κ y = 8) (Z : zF (nuFp P) κ τ) (h : ¬ P y) : zI τ nuLength y = zI κ nuLength y ∧ zR τ nuLimbs y = zR κ nuLimbs y ∧ zA τ (zR κ nuLimbs y) = zA κ (zR κ nuLimbs y) ∧ zN τ (zR κ nuLimbs y) = zN κ (zR κ nuLimbs y) := nu_z W T Z (fun z => h z.1) (fun z => h z.1)
theorem nuFp_B {C : zC} {n0 y c : Nat} {P : Nat → Prop} {κ τ : zS} (W : zW C n0 κ) (T : zT κ y = 8) (Z : zF (nuFp P) κ τ) (h : ¬ P y) : (nuB κ y c → nuB τ y c) ∧ (nuI κ y c → nuI τ y c) ∧ nuN τ y = nuN κ y ∧ nuK τ y = nuK κ y := nuB_z W T Z (fun z => h z.1) (fun z => h z.1)
theorem nuFp_C {C : zC} {n0 y c : Nat} {P : Nat → Prop} {κ τ : zS} (W : zW C n0 κ) (T : zT κ y = 8) (Z : zF (nuFp P) κ τ) (h : ¬ P y) (hc : nuC κ y c) : nuC τ y c := by
  obtain ⟨_, b, _, d⟩ := nuFp_z W T Z h
  unfold nuC
  rw [b, d]
  exact hc
/-- only limbs of some numbers were written -/
def nuEp (P : Nat → Prop) (κ τ : zS) : Prop := zF (nuFp P) κ τ ∧ zR τ = zR κ ∧ zI τ = zI κ ∧ zN τ = zN κ
theorem nuEp.rf {P : Nat → Prop} {κ : zS} : nuEp P κ κ := ⟨zF.rf, rfl, rfl, rfl⟩
theorem nuEp.tr {P : Nat → Prop} {κ τ σ : zS} (h : nuEp P κ τ) (g : nuEp P τ σ) : nuEp P κ σ := ⟨h.1.tr g.1, g.2.1.trans h.2.1, g.2.2.1.trans h.2.2.1, g.2.2.2.trans h.2.2.2⟩
theorem nuE.up {P : Nat → Prop} {κ τ : zS} {x : Nat} (h : nuE κ τ x) (p : P x) : nuEp P κ τ := ⟨nuFp_m p h.1, h.2⟩
theorem uV_split {f : Nat → Int32} {a : Nat} : ∀ {b : Nat}, uV f (a + b) = uV f a + uV (uW f a) b * 2147483648 ^ a
  | 0 => by
    show uV f a = uV f a + 0 * _
    omega
  | b + 1 => by
    show uV f (a + b) + (f (a + b)).toNatClampNeg * 2147483648 ^ (a + b) = uV f a + (uV (uW f a) b + (uW f a b).toNatClampNeg * 2147483648 ^ b) * 2147483648 ^ a
    rw [uV_split (b := b), Nat.add_mul, Nat.pow_add, Nat.mul_comm (2147483648 ^ a) (2147483648 ^ b), Nat.mul_assoc]
    show _ + (f (a + b)).toNatClampNeg * _ = _ + (_ + (f (a + b)).toNatClampNeg * _)
    omega
theorem uW_1 {f : Nat → Int32} {p : Nat} : uW (uW f p) 1 = uW f (p + 1) := by
  funext j
  show f (p + (1 + j)) = f (p + 1 + j)
  rw [Nat.add_assoc]
theorem uW_0 {f : Nat → Int32} : uW f 0 = f := by
  funext j
  show f (0 + j) = f j
  rw [Nat.zero_add]
theorem uV_f {f : Nat → Int32} {p n : Nat} : uV (uW f p) (n + 1) = (f p).toNatClampNeg + 2147483648 * uV (uW f (p + 1)) n := by
  rw [Nat.add_comm n 1, uV_split, uW_1, uV_1]
  show (f (p + 0)).toNatClampNeg + _ * 2147483648 ^ 1 = (f p).toNatClampNeg + _
  rw [Nat.add_zero, Nat.pow_one, Nat.mul_comm]
/-- a division on its way: places p .. are done -/
def dwI (X0 X Qf D : Nat → Int32) (m L p : Nat) : Prop := p + m ≤ L ∧ uV X L + uV D m * (uV (uW Qf p) (L - m - p) * 2147483648 ^ p) = uV X0 L ∧ (∀ j, j < L → 0 ≤ (X j).toInt) ∧ uV (uW X p) m < uV D m ∧ (∀ j, p + m ≤ j → j < L → X j = 0) ∧ ∀ j, p ≤ j → j < L - m → 0 ≤ (Qf j).toInt
theorem dwI_R {X0 X Qf D : Nat → Int32} {m L p : Nat} (h : dwI X0 X Qf D m L (p + 1)) : uV (uW X p) (m + 1) < 2147483648 * uV D m := by
  have l := lim31 (X p)
  have s := h.2.2.2.1
  rw [uV_f]
  have := Nat.mul_le_mul_left 2147483648 s
  rw [Nat.mul_succ] at this
  omega
theorem dw_ar {A R q r S Q b p : Nat} (e : S * q + r = R) : A + r * p + S * ((q + b * Q) * p) = A + R * p + S * (Q * (b * p)) := by
  rw [← e, Nat.add_mul, Nat.add_mul, Nat.mul_add, Nat.mul_assoc S q p, Nat.mul_left_comm Q b p, Nat.mul_assoc b Q p]
  omega
theorem dwI_s {X0 X X' Qf Qf' D : Nat → Int32} {m L p : Nat} {v : Int32} (h : dwI X0 X Qf D m L (p + 1)) (h1 : uV (uW X' p) (m + 1) = uV (uW X p) (m + 1) % uV D m) (h2 : ∀ j, j < m + 1 → 0 ≤ (uW X' p j).toInt) (h3 : ∀ j, (j < p ∨ p + m < j) → X' j = X j) (e : Qf' = upd Qf p v) (hv : v.toNatClampNeg = uV (uW X p) (m + 1) / uV D m) (hv0 : 0 ≤ v.toInt) : dwI X0 X' Qf' D m L p := by
  obtain ⟨g1, g2, g3, g4, g5, g6⟩ := h
  have S0 : 0 < uV D m := by omega
  have ml := Nat.mod_lt (uV (uW X p) (m + 1)) S0
  have top : uV (uW X' p) (m + 1) = uV (uW X' p) m + (X' (p + m)).toNatClampNeg * 2147483648 ^ m := rfl
  have lS := uV_lt (f := D) (n := m)
  have tz : (X' (p + m)).toNatClampNeg = 0 := by
    refine Nat.eq_zero_of_not_pos (fun z => ?_)
    have := Nat.mul_le_mul_right (2147483648 ^ m) z
    omega
  have x0 : X' (p + m) = 0 := by
    have a := h2 m (Nat.lt_succ_self m)
    have a2 : 0 ≤ (X' (p + m)).toInt := a
    have k := cnk a2
    exact Int32.toInt_inj.mp (by rw [t0i]; omega)
  have eL : ∀ (Y : Nat → Int32), (∀ j, p + (m + 1) ≤ j → j < L → Y j = 0) → uV Y L = uV Y p + uV (uW Y p) (m + 1) * 2147483648 ^ p := fun Y hY => by
    rw [uV_pad (k := p + (m + 1)) (by omega) hY, uV_split]
  have a1 := eL X (fun j hj hl => g5 j (by omega) hl)
  have a2 := eL X' (fun j hj hl => by rw [h3 j (by omega)]; exact g5 j (by omega) hl)
  have low : uV X' p = uV X p := uV_e (fun j hj => h3 j (Or.inl hj))
  have qp : Qf' p = v := by rw [e]; exact if_pos rfl
  have eq : uV (uW Qf' p) (L - m - p) = v.toNatClampNeg + 2147483648 * uV (uW Qf (p + 1)) (L - m - (p + 1)) := by
    have e9 : L - m - p = L - m - (p + 1) + 1 := by omega
    rw [e9, uV_f, qp]
    congr 2
    exact uV_e (fun j hj => by
      show Qf' (p + 1 + j) = Qf (p + 1 + j)
      rw [e]
      exact if_neg (by omega))
  refine ⟨by omega, ?_, fun j hj => ?_, ?_, fun j hj hl => ?_, fun j hj hl => ?_⟩
  · rw [a2, low, h1, eq, hv, dw_ar (Nat.div_add_mod _ _), ← a1, ← p31_s]
    exact g2
  · by_cases z : j < p ∨ p + m < j
    · rw [h3 j z]; exact g3 j hj
    · have q := h2 (j - p) (by omega)
      have e8 : uW X' p (j - p) = X' j := by
        show X' (p + (j - p)) = X' j
        congr 1
        omega
      rw [e8] at q
      exact q
  · omega
  · by_cases z : j = p + m
    · rw [z]; exact x0
    · rw [h3 j (by omega)]; exact g5 j (by omega) hl
  · rw [e]
    by_cases z : j = p
    · have : upd Qf p v j = v := if_pos z
      rw [this]; exact hv0
    · have : upd Qf p v j = Qf j := if_neg z
      rw [this]; exact g6 j (by omega) hl
theorem dwI_0 {X0 Qf D : Nat → Int32} {m L A S q K : Nat} (hm : m ≤ L) (hX : ∀ j, j < L → 0 ≤ (X0 j).toInt) (hA : uV X0 L = A * q) (hS : uV D m = S * q) (hq : 0 < q) (hk : A < 2147483648 ^ K) (hs : 2147483648 ^ K ≤ S * 2147483648 ^ (L - m)) : dwI X0 X0 Qf D m L (L - m) := by
  refine ⟨by omega, ?_, hX, ?_, fun j h1 h2 => absurd h1 (by omega), fun j h1 h2 => absurd h1 (by omega)⟩
  · rw [Nat.sub_self]
    show _ + _ * (0 * _) = _
    rw [Nat.zero_mul, Nat.mul_zero, Nat.add_zero]
  · refine Nat.lt_of_not_le (fun l => ?_)
    have sp := uV_split (f := X0) (a := L - m) (b := m)
    have e9 : L - m + m = L := by omega
    rw [e9, hA] at sp
    rw [hS] at l
    have m1 := Nat.mul_le_mul_right (2147483648 ^ (L - m)) l
    rw [Nat.mul_right_comm] at m1
    have m2 := Nat.mul_le_mul_right q hs
    have m3 := Nat.mul_le_mul_right q hk
    rw [Nat.succ_mul] at m3
    omega
theorem dwI_e {X0 X Qf D : Nat → Int32} {m L A S q : Nat} (h : dwI X0 X Qf D m L 0) (hA : uV X0 L = A * q) (hS : uV D m = S * q) (h0 : 0 < S) (hq : 0 < q) : uV Qf (L - m) = A / S ∧ uV X m / q = A % S := by
  obtain ⟨g1, g2, g3, g4, g5, g6⟩ := h
  rw [uW_0] at g2 g4
  rw [uV_pad (k := m) (by omega) (fun j h1 h2 => g5 j (by omega) h2), Nat.pow_zero, Nat.mul_one, Nat.sub_zero, hA, hS] at g2
  rw [hS] at g4
  have u := (Nat.div_mod_unique (a := A * q) (b := S * q) (c := uV X m) (d := uV Qf (L - m)) (Nat.mul_pos h0 hq)).mpr ⟨g2, g4⟩
  rw [Nat.mul_div_mul_right _ _ hq, Nat.mul_mod_mul_right] at u
  exact ⟨u.1.symm, by rw [← u.2]; exact Nat.mul_div_cancel _ hq⟩
/-- Knuth's guess is not too low -/
theorem kq_lo {R S R1 S1 w t h s p P q : Nat} (hR : R = R1 + w * P + t * p) (hS : S = S1 + h * P + s * p) (hP : P = 2147483648 * p) (h1 : R1 < p) (ht : t < 2147483648) (hq : q * S ≤ R) (hh : 0 < h) : q ≤ w / h := by
  rw [Nat.le_div_iff_mul_le hh]
  refine Nat.le_of_not_lt (fun l => ?_)
  have a := Nat.mul_le_mul_right P l
  rw [Nat.succ_mul] at a
  have b : q * S = q * S1 + q * h * P + q * s * p := by rw [hS, Nat.mul_add, Nat.mul_add, Nat.mul_assoc, Nat.mul_assoc]
  have c := Nat.mul_le_mul_right p ht
  rw [Nat.succ_mul, ← hP] at c
  omega
theorem kq_up {R S R1 S1 w t h s p P g : Nat} (hR : R = R1 + w * P + t * p) (hS : S = S1 + h * P + s * p) (hP : P = 2147483648 * p) (h1 : S1 < p) (hs : s < 2147483648) (hg : g * h ≤ w) (gl : g < 2147483648) (hh : 1073741824 ≤ h) : g * S < R + 2 * S := by
  have b : g * S = g * S1 + g * h * P + g * s * p := by rw [hS, Nat.mul_add, Nat.mul_add, Nat.mul_assoc, Nat.mul_assoc]
  have c := Nat.mul_le_mul_right p hs
  rw [Nat.succ_mul, ← hP] at c
  have d := Nat.mul_le_mul_left g (show S1 + s * p ≤ P by omega)
  rw [Nat.mul_add, ← Nat.mul_assoc] at d
  have e := Nat.mul_le_mul_right P hg
  have f := Nat.mul_le_mul_right P hh
  have k := Nat.mul_le_mul_right P gl
  rw [Nat.succ_mul] at k
  omega
theorem kq_dn {R S R1 S1 w t h s p P g : Nat} (hR : R = R1 + w * P + t * p) (hS : S = S1 + h * P + s * p) (hP : P = 2147483648 * p) (h1 : R1 < p) (hg : g * h ≤ w) (c : (w - g * h) * 2147483648 + t < g * s) : R < g * S := by
  have b : g * S = g * S1 + g * h * P + g * s * p := by rw [hS, Nat.mul_add, Nat.mul_add, Nat.mul_assoc, Nat.mul_assoc]
  have d := Nat.mul_le_mul_right p c
  rw [Nat.succ_mul, Nat.add_mul, Nat.mul_assoc, ← hP, Nat.sub_mul] at d
  have e := Nat.mul_le_mul_right P hg
  omega
theorem kq_ex {R S R1 S1 w t h s p P g : Nat} (hR : R = R1 + w * P + t * p) (hS : S = S1 + h * P + s * p) (hP : P = 2147483648 * p) (h1 : S1 < p) (hs : s < 2147483648) (hg : g * h ≤ w) (gl : g < 2147483648) (hh : 0 < h) (c : 2147483648 ≤ w - g * h ∨ g * s ≤ (w - g * h) * 2147483648 + t) : g * S < R + S := by
  have b : g * S = g * S1 + g * h * P + g * s * p := by rw [hS, Nat.mul_add, Nat.mul_add, Nat.mul_assoc, Nat.mul_assoc]
  have e := Nat.mul_le_mul_right P hg
  have k : g * S1 ≤ g * p := Nat.mul_le_mul_left g (by omega)
  have k2 := Nat.mul_le_mul_right p gl
  rw [Nat.succ_mul, ← hP] at k2
  have k3 := Nat.mul_le_mul_right P hh
  rw [Nat.succ_mul, Nat.zero_mul] at k3
  have cl : g * h * P + g * s * p ≤ w * P + t * p := by
    rcases c with c | c
    · have c1 := Nat.mul_le_mul_right P c
      rw [Nat.sub_mul] at c1
      have c2 : g * s * p ≤ 2147483648 * 2147483648 * p := Nat.mul_le_mul_right p (Nat.mul_le_mul (by omega) (by omega))
      rw [Nat.mul_assoc 2147483648, ← hP] at c2
      omega
    · have c1 := Nat.mul_le_mul_right p c
      rw [Nat.add_mul, Nat.mul_assoc (w - g * h), ← hP, Nat.sub_mul] at c1
      omega
  omega
theorem kq_q {R S g k : Nat} (hS : 0 < S) (h : g * S < R + k * S) : g ≤ R / S + k := by
  refine Nat.le_of_not_lt (fun l => ?_)
  have a := Nat.lt_div_mul_add (a := R) hS
  have b := Nat.mul_le_mul_right S l
  rw [Nat.succ_mul, Nat.add_mul] at b
  omega
/-- a number by its two or three highest limbs -/
theorem kw_S {D : Nat → Int32} {m : Nat} (h : 2 ≤ m) : uV D m = uV D (m - 2) + (D (m - 1)).toNatClampNeg * (2147483648 * 2147483648 ^ (m - 2)) + (D (m - 2)).toNatClampNeg * 2147483648 ^ (m - 2) := by
  have e : m = m - 2 + 1 + 1 := by omega
  have e1 : m - 1 = m - 2 + 1 := by omega
  rw [e1]
  conv => lhs; rw [e]
  show uV D (m - 2) + (D (m - 2)).toNatClampNeg * 2147483648 ^ (m - 2) + (D (m - 2 + 1)).toNatClampNeg * 2147483648 ^ (m - 2 + 1) = _
  rw [p31_s]
  omega
theorem kw_R {D : Nat → Int32} {m : Nat} (h : 2 ≤ m) : uV D (m + 1) = uV D (m - 2) + ((D m).toNatClampNeg * 2147483648 + (D (m - 1)).toNatClampNeg) * (2147483648 * 2147483648 ^ (m - 2)) + (D (m - 2)).toNatClampNeg * 2147483648 ^ (m - 2) := by
  show uV D m + (D m).toNatClampNeg * 2147483648 ^ m = _
  have e : (2147483648 : Nat) ^ m = 2147483648 * (2147483648 * 2147483648 ^ (m - 2)) := by
    have e9 : m = m - 2 + 1 + 1 := by omega
    conv => lhs; rw [e9]
    rw [p31_s, p31_s]
  rw [kw_S h, e, Nat.add_mul, Nat.mul_assoc]
  omega
/-- the divisor fills its highest limb -/
theorem nz_s {D : Nat → Int32} {m N t v s : Nat} (hm : 0 < m) (hN : uV D (m + 1) = N * 2 ^ s) (hs : s + v = 31) (hv : 1 ≤ v) (h1 : t < 2 ^ v) (h2 : 2 ^ (v - 1) ≤ t) (hl : t * 2147483648 ^ (m - 1) ≤ N) (hu : N < (t + 1) * 2147483648 ^ (m - 1)) : uV D m = N * 2 ^ s ∧ 1073741824 ≤ (D (m - 1)).toNatClampNeg := by
  have eB : 2 ^ v * 2 ^ s = 2147483648 := by
    rw [← Nat.pow_add]
    have : v + s = 31 := by omega
    rw [this]
  have eH : 2 ^ (v - 1) * 2 ^ s = 1073741824 := by
    rw [← Nat.pow_add]
    have : v - 1 + s = 30 := by omega
    rw [this]
  have em : (2147483648 : Nat) ^ m = 2147483648 * 2147483648 ^ (m - 1) := by
    have e9 : m = m - 1 + 1 := by omega
    conv => lhs; rw [e9]
    rw [p31_s]
  have u1 : N * 2 ^ s < 2147483648 ^ m := by
    have a := Nat.mul_le_mul_right (2147483648 ^ (m - 1)) h1
    have b : N < 2 ^ v * 2147483648 ^ (m - 1) := Nat.lt_of_lt_of_le hu a
    have c := Nat.mul_lt_mul_of_pos_right b (Nat.pow_pos (by decide) : 0 < 2 ^ s)
    rw [Nat.mul_right_comm, eB, ← em] at c
    exact c
  have dz : (D m).toNatClampNeg = 0 := by
    refine Nat.eq_zero_of_not_pos (fun z => ?_)
    have a := Nat.mul_le_mul_right (2147483648 ^ m) z
    have b : uV D (m + 1) = uV D m + (D m).toNatClampNeg * 2147483648 ^ m := rfl
    omega
  have e1 : uV D m = N * 2 ^ s := by
    have b : uV D (m + 1) = uV D m + (D m).toNatClampNeg * 2147483648 ^ m := rfl
    rw [dz, Nat.zero_mul] at b
    omega
  refine ⟨e1, ?_⟩
  have l1 : 1073741824 * 2147483648 ^ (m - 1) ≤ uV D m := by
    have a := Nat.mul_le_mul_right (2 ^ s) hl
    have b := Nat.mul_le_mul_right (2147483648 ^ (m - 1) * 2 ^ s) h2
    rw [e1]
    rw [Nat.mul_comm (2147483648 ^ (m - 1)), ← Nat.mul_assoc, ← Nat.mul_assoc, eH, Nat.mul_right_comm] at b
    omega
  have l2 : uV D m = uV D (m - 1) + (D (m - 1)).toNatClampNeg * 2147483648 ^ (m - 1) := by
    have e9 : m = m - 1 + 1 := by omega
    conv => lhs; rw [e9]
    rfl
  have l3 := uV_lt (f := D) (n := m - 1)
  refine Nat.le_of_not_lt (fun z => ?_)
  have a := Nat.mul_le_mul_right (2147483648 ^ (m - 1)) (show (D (m - 1)).toNatClampNeg + 1 ≤ 1073741824 from z)
  rw [Nat.add_mul] at a
  omega
/-- a guess on its way -/
def gsI (w h q g o n : Nat) : Prop := g < 2147483648 ∧ o + g * h = w ∧ q ≤ g ∧ g + n ≤ q + 2

end
