set_option maxHeartbeats 1600000
/-! the reference: one place of a quotient -/
theorem lg_le {x y : Int64} : lg_cmp x y ≤ 0 ↔ x ≤ y := by
  unfold lg_cmp
  by_cases h : x > y
  · rw [if_pos h]
    exact ⟨fun z => absurd z (by decide), fun z => absurd (Int64.lt_of_le_of_lt z h) (Int64.lt_irrefl)⟩
  · rw [if_neg h]
    refine ⟨fun _ => Int64.not_lt.mp h, fun _ => ?_⟩
    by_cases e : x = y
    · rw [if_pos e]; decide
    · rw [if_neg e]; decide
theorem lg_ge {x y : Int64} : 0 ≤ lg_cmp x y ↔ y ≤ x := by
  unfold lg_cmp
  by_cases h : x > y
  · rw [if_pos h]
    exact ⟨fun _ => Int64.le_of_lt h, fun _ => by decide⟩
  · rw [if_neg h]
    by_cases e : x = y
    · rw [if_pos e]
      exact ⟨fun _ => by rw [e]; exact Int64.le_refl y, fun _ => by decide⟩
    · rw [if_neg e]
      exact ⟨fun z => absurd z (by decide), fun z => absurd (Int64.lt_of_le_of_ne z (fun w => e w.symm)) h⟩
theorem l_andg {x : Int64} : (x &&& 65535).toInt = x.toInt % 65536 ∧ ((x &&& 65535).toInt32).toInt = x.toInt % 65536 ∧ 0 ≤ (x &&& 65535).toInt32 ∧ (x &&& 65535).toInt32 < 65536 := by
  have e : (x &&& 65535).toBitVec.toNat = x.toBitVec.toNat % 65536 := by
    rw [Int64.toBitVec_and, BitVec.toNat_and, show (65535 : Int64).toBitVec.toNat = 2 ^ 16 - 1 from rfl, Nat.and_two_pow_sub_one_eq_mod]
  have t : (x &&& 65535).toInt = ((x &&& 65535).toBitVec.toNat : Int) := BitVec.toInt_eq_toNat_of_lt (by rw [e]; omega)
  have c : x.toInt = if 2 * x.toBitVec.toNat < 2 ^ 64 then (x.toBitVec.toNat : Int) else (x.toBitVec.toNat : Int) - (2 ^ 64 : Nat) := BitVec.toInt_eq_toNat_cond x.toBitVec
  have r : (x &&& 65535).toInt = x.toInt % 65536 := by
    rw [t, e]
    split at c <;> omega
  have r2 : ((x &&& 65535).toInt32).toInt = x.toInt % 65536 := by
    rw [Int64.toInt_toInt32, r]
    exact Int.bmod_eq_of_le (by omega) (by omega)
  refine ⟨r, r2, ?_, ?_⟩
  · rw [Int32.le_iff_toInt_le, Int32.toInt_zero, r2]; omega
  · rw [Int32.lt_iff_toInt_lt, r2, show (65536 : Int32).toInt = 65536 from rfl]; omega
theorem x64 {x : Int32} (h : 0 ≤ x) : (x.toInt64).toBitVec.toNat = x.toNatClampNeg := by
  have m : x.toBitVec.msb = false := by
    rw [BitVec.msb_eq_decide, bn_n h]
    have := cn_int h
    have := Int32.toInt_lt x
    simp only [decide_eq_false_iff_not]
    omega
  have l : x.toNatClampNeg < 2 ^ 32 := by rw [← bn_n h]; exact x.toBitVec.isLt
  rw [Int32.toBitVec_toInt64, BitVec.signExtend_eq_setWidth_of_msb_false m, BitVec.toNat_setWidth, bn_n h]
  exact Nat.mod_eq_of_lt (by omega)
theorem top_v {x y : Int32} (hx : 0 ≤ x ∧ x < 65536) (hy : 0 ≤ y ∧ y < 65536) : ((x.toInt64 <<< ((16 : Int32).toInt64 &&& 63)) ||| y.toInt64).toInt = ((x.toNatClampNeg * 65536 + y.toNatClampNeg : Nat) : Int) := by
  have dx := (d_n hx).1
  have dy := (d_n hy).1
  have e : ((x.toInt64 <<< ((16 : Int32).toInt64 &&& 63)) ||| y.toInt64).toBitVec.toNat = x.toNatClampNeg * 65536 + y.toNatClampNeg := by
    rw [Int64.toBitVec_or, BitVec.toNat_or, x64 hy.1, Int64.toBitVec_shiftLeft, BitVec.shiftLeft_eq', show (((16 : Int32).toInt64 &&& 63).toBitVec.smod 64).toNat = 16 from rfl, BitVec.toNat_shiftLeft, x64 hx.1, Nat.mod_eq_of_lt (by rw [Nat.shiftLeft_eq]; omega), ← Nat.shiftLeft_add_eq_or_of_lt (by omega), Nat.shiftLeft_eq]
  rw [← e]
  exact BitVec.toInt_eq_toNat_of_lt (by rw [e]; omega)
theorem ar_g {D E x y t p R S : Nat} (hR : R = D + y * p + x * (65536 * p)) (hS : S = E + t * p) (hD : D < p) (ht : 0 < t) : R < ((x * 65536 + y) / t + 1) * S := by
  have q := Nat.lt_div_mul_add (a := x * 65536 + y) ht
  have q2 : x * 65536 + y + 1 ≤ ((x * 65536 + y) / t + 1) * t := by
    rw [Nat.add_mul]
    omega
  have m := Nat.mul_le_mul_right p q2
  have s : ((x * 65536 + y) / t + 1) * (t * p) ≤ ((x * 65536 + y) / t + 1) * S := Nat.mul_le_mul_left _ (by omega)
  rw [Nat.mul_assoc] at m
  have e : (x * 65536 + y + 1) * p = x * (65536 * p) + y * p + p := by
    rw [Nat.add_mul, Nat.add_mul, Nat.mul_assoc]
    omega
  omega
/-- only the places o to o + n differ -/
def frP (o n : Nat) (σ τ : rS) : Prop := τ.1 = σ.1 ∧ τ.2.1 = σ.2.1 ∧ (∀ k, k ≠ 90 → τ.2.2.1 k = σ.2.2.1 k) ∧ τ.2.2.2 = σ.2.2.2 ∧ ∀ i, (i < o ∨ o + n < i) → τ.2.2.1 90 i = σ.2.2.1 90 i
theorem frP_refl {o n : Nat} {σ : rS} : frP o n σ σ := ⟨rfl, rfl, fun _ _ => rfl, rfl, fun _ _ => rfl⟩
theorem frP_tr {o n : Nat} {σ τ υ : rS} (h : frP o n σ τ) (g : frP o n τ υ) : frP o n σ υ := ⟨g.1.trans h.1, g.2.1.trans h.2.1, fun k z => (g.2.2.1 k z).trans (h.2.2.1 k z), g.2.2.2.1.trans h.2.2.2.1, fun i z => (g.2.2.2.2 i z).trans (h.2.2.2.2 i z)⟩
theorem frP_w {o n i : Nat} {σ : rS} {x : Int32} (hi : i ≤ n) : frP o n σ (riU σ 90 (o + i) x) := ⟨rfl, rfl, fun k z => ri3 z, rfl, fun j hj => by rw [ri4, if_neg (by omega)]⟩
theorem ox {a j k : Int32} (h0 : 0 ≤ a) (h1 : a < 30) (hj : 0 ≤ j) (hk : 0 ≤ k) (h : j.toNatClampNeg + k.toNatClampNeg < 40000) : (0 ≤ 40000 * a + j + k ∧ 40000 * a + j + k < 1200000) ∧ (40000 * a + j + k).toNatClampNeg = 40000 * a.toNatClampNeg + j.toNatClampNeg + k.toNatClampNeg := by
  have w := ik hj hk h
  have b := bx h0 h1 w.1 w.2.2.1
  rw [Int32.add_assoc]
  exact ⟨⟨b.1, b.2.2.1 w.2.1⟩, by rw [b.2.1, w.2.2.2, Nat.add_assoc]⟩
theorem sb1 {x n : Int32} : x + n - 1 = x + (n - 1) := by rw [Int32.sub_eq_add_neg, Int32.sub_eq_add_neg, Int32.add_assoc]
/-- while the divisor is taken away: k places are done -/
def odI (σ τ : rS) (o s : Nat) (g c b : Int64) (k : Int32) : Prop := frP o (nL σ s) σ τ ∧ 0 ≤ k ∧ k ≤ σ.2.2.1 91 s ∧ dgO (τ.2.2.1 90) o k.toNatClampNeg ∧ (∀ i, k.toNatClampNeg ≤ i → τ.2.2.1 90 (o + i) = σ.2.2.1 90 (o + i)) ∧ ∃ G K H : Nat, g.toInt = (G : Int) ∧ c.toInt = (K : Int) ∧ b.toInt = (H : Int) ∧ G < 65536 ∧ K < 65536 ∧ H ≤ 1 ∧ dv (τ.2.2.1 90) o k.toNatClampNeg + G * dv (σ.2.2.1 90) (40000 * s) k.toNatClampNeg = dv (σ.2.2.1 90) o k.toNatClampNeg + (K + H) * 65536 ^ k.toNatClampNeg
theorem ar_o {D D' S p G K H x y d K' H' : Nat} (h : D + G * S = D' + (K + H) * p) (hv : K + H + d + G * y = x + 65536 * K' + 65536 * H') : D + d * p + G * (S + y * p) = D' + x * p + (K' + H') * (65536 * p) := by
  have e : (K + H + d + G * y) * p = (x + 65536 * K' + 65536 * H') * p := by rw [hv]
  rw [Nat.add_mul, Nat.add_mul, Nat.add_mul, Nat.add_mul, Nat.add_mul, Nat.mul_assoc, Nat.mul_assoc, Nat.mul_assoc] at e
  have f : (K' + H') * (65536 * p) = 65536 * (K' * p) + 65536 * (H' * p) := by rw [Nat.add_mul, Nat.mul_left_comm K', Nat.mul_left_comm H']
  have g : (K + H) * p = K * p + H * p := Nat.add_mul ..
  rw [Nat.mul_add]
  omega
theorem mc_v {y : Int32} {a c : Int64} {A K : Nat} (hy : 0 ≤ y ∧ y < 65536) (ha : a.toInt = (A : Int)) (hA : A < 65536) (hc : c.toInt = (K : Int)) (hK : K < 65536) : (c + a * y.toInt64).toInt = ((K + A * y.toNatClampNeg : Nat) : Int) ∧ 0 ≤ c + a * y.toInt64 ∧ K + A * y.toNatClampNeg < 65536 * 65536 := by
  have dy := d_n hy
  have m := m1616 hA dy.1
  have e1 : (a * y.toInt64).toInt = ((A * y.toNatClampNeg : Nat) : Int) := by
    rw [Int64.toInt_mul, Int32.toInt_toInt64, ha, ← dy.2, ← Int.natCast_mul]
    exact Int.bmod_eq_of_le (by omega) (by omega)
  have e2 : (c + a * y.toInt64).toInt = ((K + A * y.toNatClampNeg : Nat) : Int) := by
    rw [Int64.toInt_add, e1, hc]
    rw [Int.bmod_eq_of_le (by omega) (by omega)]
    omega
  exact ⟨e2, by rw [Int64.le_iff_toInt_le, e2, Int64.toInt_zero]; omega, by omega⟩
theorem od_step {σ τ υ : rS} {o s : Nat} {g c b c2 c' v b' : Int64} {k : Int32} (h : odI σ τ o s g c b k) (hs : numO σ s) (hd : dgO (σ.2.2.1 90) o (nL σ s + 1)) (hk : ¬ σ.2.2.1 91 s ≤ k) (hc2 : c2 = c + g * (σ.2.2.1 90 (40000 * s + k.toNatClampNeg)).toInt64) (hv : v = (σ.2.2.1 90 (o + k.toNatClampNeg)).toInt64 - (c2 &&& 65535) - b) (hb : (0 ≤ v ∧ b' = 0) ∨ (¬ 0 ≤ v ∧ b' = 1)) (hc : c' = (c2.toUInt64 >>> ((16 : Int32).toInt64.toUInt64 &&& Int64.toUInt64 63)).toInt64) (hu : υ = riU τ 90 (o + k.toNatClampNeg) (v &&& 65535).toInt32) : odI σ υ o s g c' b' (k + 1) := by
  obtain ⟨g1, g2, g3, g4, g5, G, K, H, g6, g7, g8, g9, ga, gb, gc⟩ := h
  have u := mn_u g2 hk hs.2.1
  have cs := cn_succ g2 u.2.2.2.2.2.2.1
  have ks : k.toNatClampNeg < nL σ s := cn_lt g2 u.2.2.2.2.2.2.2
  have dy := hs.2.2.1 _ ks
  have dx := d_n (hd k.toNatClampNeg (by omega))
  have w := mc_v dy g6 g9 g7 ga
  rw [← hc2] at w
  have la := l_andg (x := c2)
  have ls := l_shr w.2.1
  rw [← hc] at ls
  have lv := l_andg (x := v)
  have ev : v.toInt = ((σ.2.2.1 90 (o + k.toNatClampNeg)).toNatClampNeg : Int) - ((K + G * (σ.2.2.1 90 (40000 * s + k.toNatClampNeg)).toNatClampNeg : Nat) : Int) % 65536 - (H : Int) := by
    have e1 : ((σ.2.2.1 90 (o + k.toNatClampNeg)).toInt64 - (c2 &&& 65535)).toInt = ((σ.2.2.1 90 (o + k.toNatClampNeg)).toNatClampNeg : Int) - ((K + G * (σ.2.2.1 90 (40000 * s + k.toNatClampNeg)).toNatClampNeg : Nat) : Int) % 65536 := by
      rw [Int64.toInt_sub, Int32.toInt_toInt64, la.1, w.1, ← dx.2]
      exact Int.bmod_eq_of_le (by omega) (by omega)
    rw [hv, Int64.toInt_sub, e1, g8]
    exact Int.bmod_eq_of_le (by omega) (by omega)
  have cd := cn_int lv.2.2.1
  rw [lv.2.1] at cd
  have r90 : ∀ j, υ.2.2.1 90 j = if j = o + k.toNatClampNeg then (v &&& 65535).toInt32 else τ.2.2.1 90 j := fun j => by rw [hu, ri4]
  have old : dv (υ.2.2.1 90) o k.toNatClampNeg = dv (τ.2.2.1 90) o k.toNatClampNeg := dv_congr (fun i hi => by rw [r90, if_neg (by omega)])
  have hb2 : ∃ H' : Nat, b'.toInt = (H' : Int) ∧ H' ≤ 1 ∧ K + H + (v &&& 65535).toInt32.toNatClampNeg + G * (σ.2.2.1 90 (40000 * s + k.toNatClampNeg)).toNatClampNeg = (σ.2.2.1 90 (o + k.toNatClampNeg)).toNatClampNeg + 65536 * ((K + G * (σ.2.2.1 90 (40000 * s + k.toNatClampNeg)).toNatClampNeg) / 65536) + 65536 * H' := by
    rcases hb with ⟨q1, q2⟩ | ⟨q1, q2⟩
    · have v0 := Int64.le_iff_toInt_le.mp q1
      rw [Int64.toInt_zero] at v0
      exact ⟨0, by rw [q2]; rfl, by omega, by omega⟩
    · have v0 := Int64.lt_iff_toInt_lt.mp (Int64.not_le.mp q1)
      rw [Int64.toInt_zero] at v0
      exact ⟨1, by rw [q2]; rfl, by omega, by omega⟩
  obtain ⟨H', i1, i2, i3⟩ := hb2
  refine ⟨frP_tr g1 (by rw [hu]; exact frP_w (by omega)), u.1, u.2.1, fun i hi => ?_, fun i hi => ?_, G, (K + G * (σ.2.2.1 90 (40000 * s + k.toNatClampNeg)).toNatClampNeg) / 65536, H', g6, by rw [ls.1, w.1]; omega, i1, g9, by omega, i2, ?_⟩
  · rw [cs] at hi
    rw [r90]
    by_cases e : i = k.toNatClampNeg
    · rw [e, if_pos rfl]; exact lv.2.2
    · rw [if_neg (by omega)]; exact g4 i (by omega)
  · rw [cs] at hi
    rw [r90, if_neg (by omega)]
    exact g5 i (by omega)
  · rw [cs, dv_s, dv_s, dv_s, old, r90, if_pos rfl, pw_s]
    exact ar_o gc i3
/-- while the divisor is given back -/
def ooI (σ τ : rS) (o s : Nat) (g a : Int64) : Prop := frP o (nL σ s) σ τ ∧ dgO (τ.2.2.1 90) o (nL σ s) ∧ τ.2.2.1 90 (o + nL σ s) = (a &&& 65535).toInt32 ∧ ∃ G : Nat, g.toInt = (G : Int) ∧ G < 65536 ∧ -65537 ≤ a.toInt ∧ a.toInt ≤ 65535 ∧ (dv (τ.2.2.1 90) o (nL σ s) : Int) + a.toInt * (65536 ^ nL σ s : Nat) = (dv (σ.2.2.1 90) o (nL σ s + 1) : Int) - ((G * nV σ s : Nat) : Int) ∧ dv (σ.2.2.1 90) o (nL σ s + 1) < (G + 1) * nV σ s
theorem oo_0 {σ τ υ : rS} {o s : Nat} {g c b a : Int64} {k : Int32} (h : odI σ τ o s g c b k) (hd : dgO (σ.2.2.1 90) o (nL σ s + 1)) (hk : σ.2.2.1 91 s ≤ k) (hg : ∀ G : Nat, g.toInt = (G : Int) → dv (σ.2.2.1 90) o (nL σ s + 1) < (G + 1) * nV σ s) (ha : a = (τ.2.2.1 90 (o + nL σ s)).toInt64 - c - b) (hu : υ = riU τ 90 (o + nL σ s) (a &&& 65535).toInt32) : ooI σ υ o s g a := by
  obtain ⟨g1, g2, g3, g4, g5, G, K, H, g6, g7, g8, g9, ga, gb, gc⟩ := h
  have ek : k = σ.2.2.1 91 s := Int32.le_antisymm g3 hk
  have L : k.toNatClampNeg = nL σ s := by rw [ek]
  rw [L] at g4 g5 gc
  rw [g5 _ (Nat.le_refl _)] at ha
  have dx := d_n (hd _ (Nat.lt_succ_self (nL σ s)))
  have ev : a.toInt = ((σ.2.2.1 90 (o + nL σ s)).toNatClampNeg : Int) - K - H := by
    have e1 : ((σ.2.2.1 90 (o + nL σ s)).toInt64 - c).toInt = ((σ.2.2.1 90 (o + nL σ s)).toNatClampNeg : Int) - K := by
      rw [Int64.toInt_sub, Int32.toInt_toInt64, g7, ← dx.2]
      exact Int.bmod_eq_of_le (by omega) (by omega)
    rw [ha, Int64.toInt_sub, e1, g8]
    exact Int.bmod_eq_of_le (by omega) (by omega)
  have r90 : ∀ j, υ.2.2.1 90 j = if j = o + nL σ s then (a &&& 65535).toInt32 else τ.2.2.1 90 j := fun j => by rw [hu, ri4]
  have old : dv (υ.2.2.1 90) o (nL σ s) = dv (τ.2.2.1 90) o (nL σ s) := dv_congr (fun i hi => by rw [r90, if_neg (by omega)])
  refine ⟨frP_tr g1 (by rw [hu]; exact frP_w (Nat.le_refl _)), fun i hi => by rw [r90, if_neg (by omega)]; exact g4 i hi, by rw [r90, if_pos rfl], G, g6, g9, by omega, by omega, ?_, hg G g6⟩
  rw [old, dv_s, ev]
  have z : dv (τ.2.2.1 90) o (nL σ s) + G * nV σ s = dv (σ.2.2.1 90) o (nL σ s) + (K + H) * 65536 ^ nL σ s := gc
  generalize 65536 ^ nL σ s = P at z ⊢
  generalize G * nV σ s = M at z ⊢
  rw [Nat.add_mul] at z
  rw [Int.sub_mul, Int.sub_mul, ← Int.natCast_mul, ← Int.natCast_mul, ← Int.natCast_mul]
  omega
def abI (σ υ τ : rS) (o s : Nat) (c k : Int32) : Prop := frP o (nL σ s) υ τ ∧ 0 ≤ k ∧ k ≤ σ.2.2.1 91 s ∧ (c = 0 ∨ c = 1) ∧ dgO (τ.2.2.1 90) o k.toNatClampNeg ∧ (∀ i, k.toNatClampNeg ≤ i → τ.2.2.1 90 (o + i) = υ.2.2.1 90 (o + i)) ∧ dv (τ.2.2.1 90) o k.toNatClampNeg + c.toNatClampNeg * 65536 ^ k.toNatClampNeg = dv (υ.2.2.1 90) o k.toNatClampNeg + dv (σ.2.2.1 90) (40000 * s) k.toNatClampNeg
theorem ab_step {σ υ τ ω : rS} {o s : Nat} {c k v : Int32} (h : abI σ υ τ o s c k) (hs : numO σ s) (hd : dgO (υ.2.2.1 90) o (nL σ s)) (hk : ¬ σ.2.2.1 91 s ≤ k) (hv : v = υ.2.2.1 90 (o + k.toNatClampNeg) + σ.2.2.1 90 (40000 * s + k.toNatClampNeg) + c) (hu : ω = riU τ 90 (o + k.toNatClampNeg) (v &&& 65535)) : abI σ υ ω o s (v >>> ((16 : Int32) &&& 31)) (k + 1) := by
  obtain ⟨g1, g2, g3, g4, g5, g6, g7⟩ := h
  have u := mn_u g2 hk hs.2.1
  have cs := cn_succ g2 u.2.2.2.2.2.2.1
  have ks : k.toNatClampNeg < nL σ s := cn_lt g2 u.2.2.2.2.2.2.2
  have dx := hd _ ks
  have dy := hs.2.2.1 _ ks
  have w := i3 dx dy g4
  rw [← hv] at w
  have a16 := and16 w.1
  have s16 := shr16 (x := v)
  have nx := d_n dx
  have ny := d_n dy
  have c0 : 0 ≤ c ∧ c.toInt ≤ 1 := by rcases g4 with rfl | rfl <;> decide
  have cc := cn_int c0.1
  have cv := cn_int w.1
  have cd := cn_int a16.2.1
  have z0 : 0 ≤ v >>> ((16 : Int32) &&& 31) := Int32.le_iff_toInt_le.mpr (by rw [s16, Int32.toInt_zero]; omega)
  have cz := cn_int z0
  rw [a16.1] at cd
  rw [s16] at cz
  have r90 : ∀ j, ω.2.2.1 90 j = if j = o + k.toNatClampNeg then v &&& 65535 else τ.2.2.1 90 j := fun j => by rw [hu, ri4]
  have old : dv (ω.2.2.1 90) o k.toNatClampNeg = dv (τ.2.2.1 90) o k.toNatClampNeg := dv_congr (fun i hi => by rw [r90, if_neg (by omega)])
  refine ⟨frP_tr g1 (by rw [hu]; exact frP_w (by omega)), u.1, u.2.1, ?_, fun i hi => ?_, fun i hi => ?_, ?_⟩
  · by_cases e : (v >>> ((16 : Int32) &&& 31)).toInt = 0
    · exact Or.inl (Int32.toInt_inj.mp (by rw [e]; rfl))
    · exact Or.inr (Int32.toInt_inj.mp (by rw [s16] at e ⊢; rw [show (1 : Int32).toInt = 1 from rfl]; omega))
  · rw [cs] at hi
    rw [r90]
    by_cases e : i = k.toNatClampNeg
    · rw [e, if_pos rfl]; exact a16.2
    · rw [if_neg (by omega)]; exact g5 i (by omega)
  · rw [cs] at hi
    rw [r90, if_neg (by omega)]
    exact g6 i (by omega)
  · rw [cs, dv_s, dv_s, dv_s, old, r90, if_pos rfl, pw_s]
    exact ar_p (x := (υ.2.2.1 90 (o + k.toNatClampNeg)).toNatClampNeg) (y := (σ.2.2.1 90 (40000 * s + k.toNatClampNeg)).toNatClampNeg) (v := v.toNatClampNeg) g7 (by omega) (by omega) (by omega)
theorem oo_g {σ τ : rS} {o s : Nat} {g a : Int64} (h : ooI σ τ o s g a) (ha : ¬ 0 ≤ a) : 0 < g.toInt ∧ (g - 1).toInt = g.toInt - 1 := by
  obtain ⟨g1, g2, g3, G, g4, g5, g6, g7, g8, g9⟩ := h
  have a0 := Int64.lt_iff_toInt_lt.mp (Int64.not_le.mp ha)
  rw [Int64.toInt_zero] at a0
  have lt := dv_lt g2
  have m : a.toInt * (65536 ^ nL σ s : Nat) ≤ -1 * (65536 ^ nL σ s : Nat) := Int.mul_le_mul_of_nonneg_right (by omega) (by omega)
  have gz : 0 < G := by
    by_cases e : G = 0
    · rw [e, Nat.zero_mul] at g8
      omega
    · omega
  refine ⟨by rw [g4]; omega, ?_⟩
  rw [Int64.toInt_sub, g4, show (1 : Int64).toInt = 1 from rfl]
  exact Int.bmod_eq_of_le (by omega) (by omega)
theorem oo_step {σ υ τ ω : rS} {o s : Nat} {g a a' : Int64} {c k : Int32} (h : ooI σ υ o s g a) (ha : ¬ 0 ≤ a) (hi : abI σ υ τ o s c k) (hk : σ.2.2.1 91 s ≤ k) (ha2 : a' = a + c.toInt64) (hu : ω = riU τ 90 (o + nL σ s) (a' &&& 65535).toInt32) : ooI σ ω o s (g - 1) a' := by
  have gg := oo_g h ha
  obtain ⟨g1, g2, g3, G, g4, g5, g6, g7, g8, g9⟩ := h
  obtain ⟨k1, k2, k3, k4, k5, k6, k7⟩ := hi
  have ek : k = σ.2.2.1 91 s := Int32.le_antisymm k3 hk
  have L : k.toNatClampNeg = nL σ s := by rw [ek]
  rw [L] at k5 k6 k7
  have a0 := Int64.lt_iff_toInt_lt.mp (Int64.not_le.mp ha)
  rw [Int64.toInt_zero] at a0
  have c0 : 0 ≤ c ∧ c.toInt ≤ 1 := by rcases k4 with rfl | rfl <;> decide
  have cc := cn_int c0.1
  have ev : a'.toInt = a.toInt + c.toInt := by
    rw [ha2, Int64.toInt_add, Int32.toInt_toInt64]
    exact Int.bmod_eq_of_le (by omega) (by omega)
  have r90 : ∀ j, ω.2.2.1 90 j = if j = o + nL σ s then (a' &&& 65535).toInt32 else τ.2.2.1 90 j := fun j => by rw [hu, ri4]
  have old : dv (ω.2.2.1 90) o (nL σ s) = dv (τ.2.2.1 90) o (nL σ s) := dv_congr (fun i hi => by rw [r90, if_neg (by omega)])
  have lt := dv_lt g2
  have m : a.toInt * (65536 ^ nL σ s : Nat) ≤ -1 * (65536 ^ nL σ s : Nat) := Int.mul_le_mul_of_nonneg_right (by omega) (by omega)
  have gs : (G : Int) = ((G - 1 : Nat) : Int) + 1 := by omega
  have gm : G * nV σ s = (G - 1) * nV σ s + nV σ s := by
    have : G = (G - 1) + 1 := by omega
    conv => lhs; rw [this, Nat.add_mul, Nat.one_mul]
  refine ⟨frP_tr g1 (frP_tr k1 (by rw [hu]; exact frP_w (Nat.le_refl _))), fun i hi => by rw [r90, if_neg (by omega)]; exact k5 i hi, by rw [r90, if_pos rfl], G - 1, by rw [gg.2, g4]; omega, by omega, by omega, by omega, ?_, ?_⟩
  · have z : dv (τ.2.2.1 90) o (nL σ s) + c.toNatClampNeg * 65536 ^ nL σ s = dv (υ.2.2.1 90) o (nL σ s) + nV σ s := k7
    rw [old, ev, Int.add_mul, ← cc, ← Int.natCast_mul]
    omega
  · rw [show G - 1 + 1 = G by omega]
    omega
theorem oo_end {σ τ : rS} {o s : Nat} {g a : Int64} (h : ooI σ τ o s g a) (hs : numO σ s) (ha : 0 ≤ a) : frP o (nL σ s) σ τ ∧ dgO (τ.2.2.1 90) o (nL σ s) ∧ τ.2.2.1 90 (o + nL σ s) = 0 ∧ (0 ≤ g.toInt32 ∧ g.toInt32 < 65536) ∧ dv (τ.2.2.1 90) o (nL σ s) + g.toInt32.toNatClampNeg * nV σ s = dv (σ.2.2.1 90) o (nL σ s + 1) ∧ dv (τ.2.2.1 90) o (nL σ s) < nV σ s := by
  obtain ⟨g1, g2, g3, G, g4, g5, g6, g7, g8, g9⟩ := h
  have a0 := Int64.le_iff_toInt_le.mp ha
  rw [Int64.toInt_zero] at a0
  have l := l_32 g4 g5
  have sl : nV σ s < 65536 ^ nL σ s := dv_lt hs.2.2.1
  rw [Nat.add_mul, Nat.one_mul] at g9
  have az : a.toInt = 0 := by
    by_cases e : a.toInt = 0
    · exact e
    · have m : 1 * ((65536 ^ nL σ s : Nat) : Int) ≤ a.toInt * (65536 ^ nL σ s : Nat) := Int.mul_le_mul_of_nonneg_right (by omega) (by omega)
      omega
  rw [az, Int.zero_mul] at g8
  have e0 : a = 0 := Int64.toInt_inj.mp (by rw [az]; rfl)
  refine ⟨g1, g2, by rw [g3, e0]; rfl, l.1, ?_, ?_⟩
  · rw [l.2]; omega
  · omega
theorem dvi {x y : Int64} {a b : Nat} (hx : x.toInt = (a : Int)) (ha : a < 4294967296) (hy : y.toInt = (b : Int)) : (x / y).toInt = ((a / b : Nat) : Int) := by
  have l : a / b ≤ a := Nat.div_le_self a b
  rw [Int64.toInt_div, hx, hy, Int.tdiv_eq_ediv_of_nonneg (by omega), ← Int.natCast_ediv]
  generalize a / b = q at l ⊢
  exact Int.bmod_eq_of_le (by omega) (by omega)
theorem oneDigit_c {C : rCx} (hC : cOK C)  {σ : rS} {a1 : Int32} {a2 : Int32} {a3 : Int32} {Q : Int32 → rS → Prop} (hp : 0 ≤ a1 ∧ a1 < 30 ∧ 0 ≤ a2 ∧ 0 ≤ a3 ∧ a3 < 30 ∧ a1 ≠ a3 ∧ numO σ a3.toNatClampNeg ∧ 0 < nL σ a3.toNatClampNeg ∧ a2.toNatClampNeg + nL σ a3.toNatClampNeg < 40000 ∧ dgO (σ.2.2.1 90) (40000 * a1.toNatClampNeg + a2.toNatClampNeg) (nL σ a3.toNatClampNeg + 1) ∧ dv (σ.2.2.1 90) (40000 * a1.toNatClampNeg + a2.toNatClampNeg) (nL σ a3.toNatClampNeg + 1) < 65536 * nV σ a3.toNatClampNeg) (h : ∀ (v : Int32) (σ' : rS), (frP (40000 * a1.toNatClampNeg + a2.toNatClampNeg) (nL σ a3.toNatClampNeg) σ σ' ∧ dgO (σ'.2.2.1 90) (40000 * a1.toNatClampNeg + a2.toNatClampNeg) (nL σ a3.toNatClampNeg) ∧ σ'.2.2.1 90 (40000 * a1.toNatClampNeg + a2.toNatClampNeg + nL σ a3.toNatClampNeg) = 0 ∧ (0 ≤ v ∧ v < 65536) ∧ dv (σ'.2.2.1 90) (40000 * a1.toNatClampNeg + a2.toNatClampNeg) (nL σ a3.toNatClampNeg) + v.toNatClampNeg * nV σ a3.toNatClampNeg = dv (σ.2.2.1 90) (40000 * a1.toNatClampNeg + a2.toNatClampNeg) (nL σ a3.toNatClampNeg + 1) ∧ dv (σ'.2.2.1 90) (40000 * a1.toNatClampNeg + a2.toNatClampNeg) (nL σ a3.toNatClampNeg) < nV σ a3.toNatClampNeg) → Q v σ') : cI C 0 m_oneDigit [.ref (co C), .int a1, .int a2, .int a3] σ Q := by
  refine m_oneDigit_run hC ?_
  unfold w_oneDigit_0
  obtain ⟨h0, h1, h2, h3, h4, hne, hs, hz, hl, hd, hb⟩ := hp
  have cne : a1.toNatClampNeg ≠ a3.toNatClampNeg := fun e => hne (cn_inj h0 h3 e)
  have out : ∀ {τ : rS} {i : Nat}, frP (40000 * a1.toNatClampNeg + a2.toNatClampNeg) (nL σ a3.toNatClampNeg) σ τ → i < 40000 → τ.2.2.1 90 (40000 * a3.toNatClampNeg + i) = σ.2.2.1 90 (40000 * a3.toNatClampNeg + i) := fun f hi => f.2.2.2.2 _ (by omega)
  have on := ox h0 h1 h2 hs.1 hl
  have om' : (40000 * a1 + a2 + rd σ 91 a3).toNatClampNeg = 40000 * a1.toNatClampNeg + a2.toNatClampNeg + nL σ a3.toNatClampNeg := on.2
  have hj89 : ∀ (l3 : Int32) (l4 : Int32) (l5 : Int32) (s0 : Int64) (τ : rS), (l3 = a3 ∧ τ = σ ∧ l4 = rd σ 91 a3 ∧ l5 = 40000 * a1 + a2 ∧ ∃ G : Nat, s0.toInt = (G : Int) ∧ G < 65536 ∧ dv (σ.2.2.1 90) (40000 * a1.toNatClampNeg + a2.toNatClampNeg) (nL σ a3.toNatClampNeg + 1) < (G + 1) * nV σ a3.toNatClampNeg) → w_oneDigit_89 C Q  l3 l4 l5 s0 τ := by
    rintro y89_3 y89_4 y89_5 y89_s0 τ89 j89
    unfold w_oneDigit_89
    unfold w_oneDigit_100
    refine ⟨fun n l3 l4 l5 l10 l12 l14 l16 τ => n = (rd σ 91 a3 - l16).toNatClampNeg ∧ (l3 = a3 ∧ l4 = rd σ 91 a3 ∧ l5 = 40000 * a1 + a2 ∧ l10 = y89_s0 ∧ odI σ τ (40000 * a1.toNatClampNeg + a2.toNatClampNeg) a3.toNatClampNeg l10 l12 l14 l16), ⟨_, rfl, ?_⟩, ?_⟩
    · clear h; obtain ⟨e3, et, e4, e5, G, eg, el, eb⟩ := j89
      refine ⟨e3, e4, e5, rfl, ?_⟩
      rw [et]
      refine ⟨frP_refl, by decide, hs.1, fun i hi => absurd hi (Nat.not_lt_zero i), fun _ _ => rfl, G, 0, 0, eg, rfl, rfl, el, by decide, by decide, ?_⟩
      show 0 + G * 0 = 0 + (0 + 0) * 1
      omega
    rintro n100 x100_3 x100_4 x100_5 x100_10 x100_12 x100_14 x100_16 σ100 ⟨hn100, i100⟩
    have hj164 : ∀ (l3 : Int32) (l4 : Int32) (l5 : Int32) (l10 : Int64) (l12 : Int64) (l16 : Int32) (l17 : Int64) (s0 : Int64) (τ : rS), (l3 = a3 ∧ τ = σ100 ∧ l4 = rd σ 91 a3 ∧ l5 = 40000 * a1 + a2 ∧ l10 = x100_10 ∧ l16 = x100_16 ∧ ¬ rd σ 91 a3 ≤ x100_16 ∧ l12 = x100_12 + x100_10 * (σ.2.2.1 90 (40000 * a3.toNatClampNeg + x100_16.toNatClampNeg)).toInt64 ∧ l17 = (σ.2.2.1 90 (40000 * a1.toNatClampNeg + a2.toNatClampNeg + x100_16.toNatClampNeg)).toInt64 - (l12 &&& 65535) - x100_14 ∧ ((0 ≤ l17 ∧ s0 = 0) ∨ (¬ 0 ≤ l17 ∧ s0 = 1))) → w_oneDigit_164 C Q (fun l3' l4' l5' l10' l12' l14' l16' τ => ∃ k < n100, (fun n l3 l4 l5 l10 l12 l14 l16 τ => n = (rd σ 91 a3 - l16).toNatClampNeg ∧ (l3 = a3 ∧ l4 = rd σ 91 a3 ∧ l5 = 40000 * a1 + a2 ∧ l10 = y89_s0 ∧ odI σ τ (40000 * a1.toNatClampNeg + a2.toNatClampNeg) a3.toNatClampNeg l10 l12 l14 l16)) k l3' l4' l5' l10' l12' l14' l16' τ) l3 l4 l5 l10 l12 l16 l17 s0 τ := by
      rintro y164_3 y164_4 y164_5 y164_10 y164_12 y164_16 y164_17 y164_s0 τ164 j164
      unfold w_oneDigit_164
      obtain ⟨e3, e4, e5, e10, I⟩ := i100
      obtain ⟨f3, ft, f4, f5, f10, f16, fk, f12, f17, fb⟩ := j164
      have u := mn_u I.2.1 fk hs.2.1
      have ks : x100_16.toNatClampNeg < nL σ a3.toNatClampNeg := cn_lt I.2.1 u.2.2.2.2.2.2.2
      have ok := ox h0 h1 h2 I.2.1 (by omega)
      refine ⟨ib_1200000.mpr ?_, ?_⟩
      · clear h; rw [f5, f16]; exact ok.1  -- b2
      intro σ_1 hσ_1
      intro x2 hx2
      intro x3 hx3
      refine ⟨_, cn_lt2 hn100 ?_ ?_, rfl, ?_⟩
      · clear h; rw [hx3, f16]; exact u.2.2.1  -- d3
      · clear h; rw [hx3, f16]; exact u.2.2.2.1  -- d4
      · clear h; rw [hx3, f16, f10]
        rw [ft, f5, f16, ok.2] at hσ_1
        exact ⟨f3, f4, f5, e10, od_step I hs hd fk f12 f17 fb hx2 hσ_1⟩
    obtain ⟨e3, e4, e5, e10, I⟩ := i100
    obtain ⟨d3, dt, d4, d5, G, dg, dl, db⟩ := j89
    refine ⟨fun c4 => ?_, fun c4 => ?_⟩
    · skip
      refine ⟨ib_1200000.mpr ?_, ?_⟩
      · clear h; rw [e5, e4]; exact on.1  -- b6
      intro x5 hx5
      refine ⟨ib_1200000.mpr ?_, ?_⟩
      · clear h; rw [e5, e4]; exact on.1  -- b7
      intro σ_6 hσ_6
      unfold w_oneDigit_232
      refine ⟨fun n l3 l4 l5 l10 l16 τ => n = l10.toInt.toNat ∧ (l3 = a3 ∧ l4 = rd σ 91 a3 ∧ l5 = 40000 * a1 + a2 ∧ ooI σ τ (40000 * a1.toNatClampNeg + a2.toNatClampNeg) a3.toNatClampNeg l10 l16), ⟨_, rfl, ?_⟩, ?_⟩
      · clear h; rw [e5, e4, om'] at hx5 hσ_6
        rw [e4] at c4
        refine ⟨e3, e4, e5, oo_0 I hd c4 (fun G2 hg => ?_) hx5 hσ_6⟩
        rw [e10, dg] at hg
        rw [show G2 = G by omega]
        exact db
      rintro n232 x232_3 x232_4 x232_5 x232_10 x232_16 σ232 ⟨hn232, i232⟩
      obtain ⟨f3, f4, f5, J⟩ := i232
      refine ⟨fun c7 => ?_, fun c7 => ?_⟩
      · skip
        refine h _ _ ?_
        · clear h; exact oo_end J hs (lg_ge.mp c7)  -- q9
      · skip
        intro x8 hx8
        have na : ¬ 0 ≤ x232_16 := fun z => c7 (lg_ge.mpr z)
        unfold w_oneDigit_251
        refine ⟨fun n l3 l4 l5 l10 l16 l18 l19 τ => n = (rd σ 91 a3 - l19).toNatClampNeg ∧ (l3 = a3 ∧ l4 = rd σ 91 a3 ∧ l5 = 40000 * a1 + a2 ∧ l10 = x232_10 - 1 ∧ l16 = x232_16 ∧ abI σ σ232 τ (40000 * a1.toNatClampNeg + a2.toNatClampNeg) a3.toNatClampNeg l18 l19), ⟨_, rfl, ?_⟩, ?_⟩
        · clear h; refine ⟨f3, f4, f5, hx8, rfl, frP_refl, by decide, hs.1, Or.inl rfl, fun i hi => absurd hi (Nat.not_lt_zero i), fun _ _ => rfl, ?_⟩
          show 0 + 0 * 65536 ^ 0 = 0 + 0
          rfl
        rintro n251 x251_3 x251_4 x251_5 x251_10 x251_16 x251_18 x251_19 σ251 ⟨hn251, i251⟩
        obtain ⟨m3, m4, m5, m10, m16, M⟩ := i251
        refine ⟨fun c9 => ?_, fun c9 => ?_⟩
        · skip
          intro x10 hx10
          refine ⟨ib_1200000.mpr ?_, ?_⟩
          · clear h; rw [m5, m4]; exact on.1  -- b11
          intro σ_11 hσ_11
          refine ⟨_, ?_, rfl, ?_⟩
          · clear h; have gg := oo_g J na
            show x251_10.toInt.toNat < n232
            rw [hn232, m10, gg.2]
            omega
          · clear h; rw [m5, m4, om'] at hσ_11
            rw [m4] at c9
            refine ⟨m3, m4, m5, ?_⟩
            rw [m10]
            exact oo_step J na M c9 (by rw [hx10, m16]) hσ_11
        · skip
          rw [m4] at c9
          have u := mn_u M.2.1 c9 hs.2.1
          have ks : x251_19.toNatClampNeg < nL σ a3.toNatClampNeg := cn_lt M.2.1 u.2.2.2.2.2.2.2
          have ok := ox h0 h1 h2 M.2.1 (by omega)
          have bk := bx h3 h4 M.2.1 u.2.2.2.2.2.1
          refine ⟨ib_1200000.mpr ?_, ?_⟩
          · clear h; rw [m5]; exact ok.1  -- b14
          refine ⟨ib_1200000.mpr ?_, ?_⟩
          · clear h; rw [m3]; exact ⟨bk.1, bk.2.2.1 u.2.2.2.2.1⟩  -- b15
          intro x12 hx12
          refine ⟨ib_1200000.mpr ?_, ?_⟩
          · clear h; rw [m5]; exact ok.1  -- b16
          intro σ_13 hσ_13
          intro x14 hx14
          intro x15 hx15
          refine ⟨_, cn_lt2 hn251 ?_ ?_, rfl, ?_⟩
          · clear h; rw [hx15]; exact u.2.2.1  -- d17
          · clear h; rw [hx15]; exact u.2.2.2.1  -- d18
          · clear h; rw [m5, ok.2] at hx12 hσ_13
            rw [m3, bk.2.1, M.2.2.2.2.2.1 _ (Nat.le_refl _), out (frP_tr J.1 M.1) (by omega)] at hx12
            rw [hx15, hx14]
            exact ⟨m3, m4, m5, m10, m16, ab_step M hs J.2.1 c9 hx12 hσ_13⟩
    · skip
      rw [e4] at c4
      have u := mn_u I.2.1 c4 hs.2.1
      have ks : x100_16.toNatClampNeg < nL σ a3.toNatClampNeg := cn_lt I.2.1 u.2.2.2.2.2.2.2
      have ok := ox h0 h1 h2 I.2.1 (by omega)
      have bk := bx h3 h4 I.2.1 u.2.2.2.2.2.1
      have y1 : σ100.2.2.1 90 (40000 * x100_3 + x100_16).toNatClampNeg = σ.2.2.1 90 (40000 * a3.toNatClampNeg + x100_16.toNatClampNeg) := by rw [e3, bk.2.1]; exact out I.1 (by omega)
      have y2 : σ100.2.2.1 90 (x100_5 + x100_16).toNatClampNeg = σ.2.2.1 90 (40000 * a1.toNatClampNeg + a2.toNatClampNeg + x100_16.toNatClampNeg) := by rw [e5, ok.2]; exact I.2.2.2.2.1 _ (Nat.le_refl _)
      refine ⟨ib_1200000.mpr ?_, ?_⟩
      · clear h; rw [e3]; exact ⟨bk.1, bk.2.2.1 u.2.2.2.2.1⟩  -- b20
      intro x16 hx16
      refine ⟨ib_1200000.mpr ?_, ?_⟩
      · clear h; rw [e5]; exact ok.1  -- b21
      intro x17 hx17
      refine ⟨fun c18 => ?_, fun c18 => ?_⟩
      · skip
        refine hj164 _ _ _ _ _ _ _ _ _ ?_
        · clear h; exact ⟨e3, rfl, e4, e5, rfl, rfl, c4, by rw [hx16, y1], by rw [hx17, y2], Or.inl ⟨lg_ge.mp c18, rfl⟩⟩  -- k22
      · skip
        refine hj164 _ _ _ _ _ _ _ _ _ ?_
        · clear h; exact ⟨e3, rfl, e4, e5, rfl, rfl, c4, by rw [hx16, y1], by rw [hx17, y2], Or.inr ⟨fun z => c18 (lg_ge.mpr z), rfl⟩⟩  -- k23
  refine ⟨ib_30.mpr ?_, ?_⟩
  · clear h; exact ⟨h3, h4⟩  -- b24
  intro x19 hx19
  intro x20 hx20
  have np : ¬ σ.2.2.1 91 a3.toNatClampNeg ≤ 0 := fun z => by
    have z2 : nL σ a3.toNatClampNeg = 0 := cn_zero z
    omega
  have pm := pos_m np hs.2.1
  have cp : nL σ a3.toNatClampNeg = (σ.2.2.1 91 a3.toNatClampNeg - 1).toNatClampNeg + 1 := cn_pred pm.2.2.2.2.1 pm.2.2.2.2.2.1
  have om := ox h0 h1 h2 pm.1 (by omega)
  have bm := bx h3 h4 pm.1 pm.2.2.1
  refine ⟨ib_1200000.mpr ?_, ?_⟩
  · clear h; rw [hx20, hx19]; exact on.1  -- b25
  refine ⟨ib_1200000.mpr ?_, ?_⟩
  · clear h; rw [hx20, hx19, sb1]; exact om.1  -- b26
  intro x21 hx21
  refine ⟨ib_1200000.mpr ?_, ?_⟩
  · clear h; rw [hx19, sb1]; exact ⟨bm.1, bm.2.2.1 pm.2.1⟩  -- b27
  intro x22 hx22
  rw [hx20, hx19, sb1, on.2, om.2] at hx21
  rw [hx19, sb1, bm.2.1] at hx22
  have dx := hd (nL σ a3.toNatClampNeg) (Nat.lt_succ_self _)
  have dy := hd (σ.2.2.1 91 a3.toNatClampNeg - 1).toNatClampNeg (by omega)
  have dt := hs.2.2.1 (σ.2.2.1 91 a3.toNatClampNeg - 1).toNatClampNeg (by omega)
  have nx := (d_n dx).1
  have ny := (d_n dy).1
  have tz : 0 < (σ.2.2.1 90 (40000 * a3.toNatClampNeg + (σ.2.2.1 91 a3.toNatClampNeg - 1).toNatClampNeg)).toNatClampNeg := by
    rcases hs.2.2.2 with z | ⟨m, z1, z2⟩
    · omega
    · rw [show (σ.2.2.1 91 a3.toNatClampNeg - 1).toNatClampNeg = m by omega]
      omega
  have tp := top_v dx dy
  rw [← show x21 = _ from hx21] at tp
  have tv : x22.toInt = ((σ.2.2.1 90 (40000 * a3.toNatClampNeg + (σ.2.2.1 91 a3.toNatClampNeg - 1).toNatClampNeg)).toNatClampNeg : Int) := by rw [hx22, Int32.toInt_toInt64]; exact (cn_int dt.1).symm
  refine ⟨?_, ?_⟩
  · clear h; intro z
    rw [z, Int64.toInt_zero] at tv
    omega
  intro x23 hx23
  have qv := dvi tp (by omega) tv
  rw [← hx23] at qv
  refine ⟨fun c24 => ?_, fun c24 => ?_⟩
  · skip
    refine hj89 _ _ _ _ _ ?_
    · clear h; have le := Int64.le_iff_toInt_le.mp (lg_le.mp c24)
      rw [qv, show (65535 : Int64).toInt = 65535 from rfl] at le
      refine ⟨rfl, rfl, hx19, hx20, _, qv, by omega, ?_⟩
      refine ar_g (D := dv (σ.2.2.1 90) (40000 * a1.toNatClampNeg + a2.toNatClampNeg) (σ.2.2.1 91 a3.toNatClampNeg - 1).toNatClampNeg) (E := dv (σ.2.2.1 90) (40000 * a3.toNatClampNeg) (σ.2.2.1 91 a3.toNatClampNeg - 1).toNatClampNeg) (p := 65536 ^ (σ.2.2.1 91 a3.toNatClampNeg - 1).toNatClampNeg) ?_ ?_ (dv_lt (fun i hi => hd i (by omega))) tz
      · rw [dv_s, ← pw_s, ← cp]
        congr 1
        rw [cp, dv_s]
      · unfold nV
        rw [cp, dv_s]
  · skip
    refine hj89 _ _ _ _ _ ?_
    · clear h; exact ⟨rfl, rfl, hx19, hx20, 65535, rfl, by decide, hb⟩  -- k30
