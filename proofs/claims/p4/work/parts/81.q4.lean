set_option maxHeartbeats 1600000
/-! the reference: numbers shifted by bits -/
theorem bn_n {x : Int32} (h : 0 ≤ x) : x.toBitVec.toNat = x.toNatClampNeg := by
  have e1 := bv_nn h
  have e2 := cn_int h
  omega
theorem s31 {b : Int32} (h0 : 0 ≤ b) (h1 : b < 32) : ((b &&& 31).toBitVec.smod 32).toNat = b.toNatClampNeg := by
  have l := cn_lt h0 h1
  rw [show (32 : Int32).toNatClampNeg = 32 from rfl] at l
  have s : (b &&& 31).toBitVec.toNat = b.toNatClampNeg := by
    rw [Int32.toBitVec_and, BitVec.toNat_and, show (31 : Int32).toBitVec.toNat = 2 ^ 5 - 1 from rfl, Nat.and_two_pow_sub_one_eq_mod, bn_n h0]
    omega
  have ms : (b &&& 31).toBitVec.msb = false := by
    rw [BitVec.msb_eq_decide, s]
    simp only [decide_eq_false_iff_not]
    omega
  rw [BitVec.smod_eq, ms, show (BitVec.msb (32 : BitVec 32)) = false from by decide]
  show ((b &&& 31).toBitVec.umod 32).toNat = _
  rw [show (((b &&& 31).toBitVec.umod 32).toNat) = (b &&& 31).toBitVec.toNat % 32 from rfl, s]
  omega
theorem p16 {n : Nat} (h : n ≤ 16) : 0 < 2 ^ n ∧ 2 ^ n ≤ 65536 ∧ 2 ^ n * 2 ^ (16 - n) = 65536 := by
  refine ⟨Nat.two_pow_pos n, Nat.pow_le_pow_right (n := 2) (by decide) h, ?_⟩
  rw [← Nat.pow_add, show n + (16 - n) = 16 by omega]
theorem shl_n {x b : Int32} (hx : 0 ≤ x ∧ x < 65536) (h0 : 0 ≤ b) (h1 : b ≤ 16) : (x <<< (b &&& 31)).toBitVec.toNat = x.toNatClampNeg * 2 ^ b.toNatClampNeg ∧ x.toNatClampNeg * 2 ^ b.toNatClampNeg < 2 ^ 32 := by
  have l := cn_le (y := 16) (n := 16) rfl h1
  have d := (d_n hx).1
  have p := p16 l
  have m : x.toNatClampNeg * 2 ^ b.toNatClampNeg ≤ 65535 * 65536 := Nat.mul_le_mul (by omega) p.2.1
  refine ⟨?_, by omega⟩
  rw [Int32.toBitVec_shiftLeft, BitVec.shiftLeft_eq', s31 h0 (Int32.lt_of_le_of_lt h1 (by decide)), BitVec.toNat_shiftLeft, bn_n hx.1, Nat.shiftLeft_eq]
  exact Nat.mod_eq_of_lt (by omega)
theorem sar_n {x b : Int32} (hx : 0 ≤ x ∧ x < 65536) (h0 : 0 ≤ b) (h1 : b ≤ 16) : (x >>> (b &&& 31)).toBitVec.toNat = x.toNatClampNeg / 2 ^ b.toNatClampNeg := by
  have ms : x.toBitVec.msb = false := by
    rw [BitVec.msb_eq_decide, bn_n hx.1]
    have := (d_n hx).1
    simp only [decide_eq_false_iff_not]
    omega
  rw [Int32.toBitVec_shiftRight, BitVec.sshiftRight_eq', s31 h0 (Int32.lt_of_le_of_lt h1 (by decide)), BitVec.sshiftRight_eq_of_msb_false ms, BitVec.toNat_ushiftRight, bn_n hx.1, Nat.shiftRight_eq_div_pow]
theorem up_v {x b c : Int32} (hx : 0 ≤ x ∧ x < 65536) (h0 : 0 ≤ b) (h1 : b ≤ 15) (c0 : 0 ≤ c) (c1 : c.toNatClampNeg < 2 ^ b.toNatClampNeg) : 0 ≤ (x <<< (b &&& 31)) ||| c ∧ ((x <<< (b &&& 31)) ||| c).toInt = ((x.toNatClampNeg * 2 ^ b.toNatClampNeg + c.toNatClampNeg : Nat) : Int) ∧ x.toNatClampNeg * 2 ^ b.toNatClampNeg + c.toNatClampNeg < 65536 * 2 ^ b.toNatClampNeg := by
  have l := cn_le (y := 15) (n := 15) rfl h1
  have s := shl_n hx h0 (Int32.le_trans h1 (by decide))
  have d := (d_n hx).1
  have p : 2 ^ b.toNatClampNeg ≤ 32768 := Nat.pow_le_pow_right (n := 2) (j := 15) (by decide) l
  have m : x.toNatClampNeg * 2 ^ b.toNatClampNeg ≤ 65535 * 2 ^ b.toNatClampNeg := Nat.mul_le_mul_right _ (by omega)
  have e : ((x <<< (b &&& 31)) ||| c).toBitVec.toNat = x.toNatClampNeg * 2 ^ b.toNatClampNeg + c.toNatClampNeg := by
    rw [Int32.toBitVec_or, BitVec.toNat_or, s.1, bn_n c0, ← Nat.shiftLeft_eq, Nat.shiftLeft_add_eq_or_of_lt c1]
  have t : ((x <<< (b &&& 31)) ||| c).toInt = ((x.toNatClampNeg * 2 ^ b.toNatClampNeg + c.toNatClampNeg : Nat) : Int) := by
    rw [← e]
    exact BitVec.toInt_eq_toNat_of_lt (by rw [e]; omega)
  exact ⟨Int32.le_iff_toInt_le.mpr (by rw [t, Int32.toInt_zero]; omega), t, by omega⟩
theorem ush {v : Int32} (h : 0 ≤ v) : 0 ≤ (v.toUInt32 >>> ((16 : Int32).toUInt32 &&& Int32.toUInt32 31)).toInt32 ∧ (v.toUInt32 >>> ((16 : Int32).toUInt32 &&& Int32.toUInt32 31)).toInt32.toNatClampNeg = v.toNatClampNeg / 65536 := by
  have e : ((v.toUInt32 >>> ((16 : Int32).toUInt32 &&& Int32.toUInt32 31)).toInt32).toBitVec.toNat = v.toBitVec.toNat / 65536 := by
    rw [UInt32.toBitVec_toInt32, UInt32.toBitVec_shiftRight, Int32.toBitVec_toUInt32, BitVec.ushiftRight_eq', BitVec.toNat_ushiftRight, Nat.shiftRight_eq_div_pow]
    rfl
  have lt : v.toBitVec.toNat < 2 ^ 32 := v.toBitVec.isLt
  have t : ((v.toUInt32 >>> ((16 : Int32).toUInt32 &&& Int32.toUInt32 31)).toInt32).toInt = (((v.toUInt32 >>> ((16 : Int32).toUInt32 &&& Int32.toUInt32 31)).toInt32).toBitVec.toNat : Int) := BitVec.toInt_eq_toNat_of_lt (by rw [e]; omega)
  have z : 0 ≤ (v.toUInt32 >>> ((16 : Int32).toUInt32 &&& Int32.toUInt32 31)).toInt32 := Int32.le_iff_toInt_le.mpr (by rw [t, Int32.toInt_zero]; omega)
  refine ⟨z, ?_⟩
  rw [← bn_n z, e, bn_n h]
def upI (σ τ : rS) (r : Nat) (b c k : Int32) : Prop := frN [r] σ τ ∧ τ.2.2.1 91 = σ.2.2.1 91 ∧ 0 ≤ k ∧ k ≤ σ.2.2.1 91 r ∧ 0 ≤ c ∧ c.toNatClampNeg < 2 ^ b.toNatClampNeg ∧ dgO (τ.2.2.1 90) (40000 * r) k.toNatClampNeg ∧ dv (τ.2.2.1 90) (40000 * r) k.toNatClampNeg + c.toNatClampNeg * 65536 ^ k.toNatClampNeg = dv (σ.2.2.1 90) (40000 * r) k.toNatClampNeg * 2 ^ b.toNatClampNeg ∧ ∀ i, k.toNatClampNeg ≤ i → i < 40000 → τ.2.2.1 90 (40000 * r + i) = σ.2.2.1 90 (40000 * r + i)
theorem ar_u {q p D S c x v : Nat} (h : D + c * p = S * q) (hv : v = x * q + c) : D + v % 65536 * p + v / 65536 * (65536 * p) = (S + x * p) * q := by
  have m := Nat.div_add_mod v 65536
  have e : (65536 * (v / 65536) + v % 65536) * p = (x * q + c) * p := by rw [m, hv]
  rw [Nat.add_mul, Nat.add_mul] at e
  have f : v / 65536 * (65536 * p) = 65536 * (v / 65536) * p := by
    rw [← Nat.mul_assoc, Nat.mul_comm (v / 65536) 65536]
  rw [Nat.add_mul, Nat.mul_right_comm x p q]
  omega
theorem up_step {σ τ υ : rS} {r : Nat} {b c c' k v : Int32} (h : upI σ τ r b c k) (hr : numO σ r) (b0 : 0 ≤ b) (b1 : b ≤ 15) (hk : ¬ σ.2.2.1 91 r ≤ k) (hv : v = (τ.2.2.1 90 (40000 * r + k.toNatClampNeg) <<< (b &&& 31)) ||| c) (hc : c' = (v.toUInt32 >>> ((16 : Int32).toUInt32 &&& Int32.toUInt32 31)).toInt32) (hu : υ = riU τ 90 (40000 * r + k.toNatClampNeg) (v &&& 65535)) : upI σ υ r b c' (k + 1) := by
  obtain ⟨g1, g2, g3, g4, g5, g6, g7, g8, g9⟩ := h
  have u := mn_u g3 hk hr.2.1
  have cs := cn_succ g3 u.2.2.2.2.2.2.1
  have kr : k.toNatClampNeg < nL σ r := cn_lt g3 u.2.2.2.2.2.2.2
  have kl : k.toNatClampNeg < 40000 := by have := nL_le hr; omega
  have ex := g9 _ (Nat.le_refl _) kl
  rw [ex] at hv
  have w := up_v (hr.2.2.1 _ kr) b0 b1 g5 g6
  rw [← hv] at w
  have a := and16 w.1
  have s := ush w.1
  rw [← hc] at s
  have cv := cn_int w.1
  have vn : v.toNatClampNeg = (σ.2.2.1 90 (40000 * r + k.toNatClampNeg)).toNatClampNeg * 2 ^ b.toNatClampNeg + c.toNatClampNeg := by rw [w.2.1] at cv; omega
  have an : (v &&& 65535).toNatClampNeg = v.toNatClampNeg % 65536 := by
    have ca := cn_int a.2.1
    rw [a.1] at ca
    omega
  have r90 : ∀ j, υ.2.2.1 90 j = if j = 40000 * r + k.toNatClampNeg then v &&& 65535 else τ.2.2.1 90 j := fun j => by rw [hu, ri4]
  have old : dv (υ.2.2.1 90) (40000 * r) k.toNatClampNeg = dv (τ.2.2.1 90) (40000 * r) k.toNatClampNeg := dv_congr (fun i hi => by rw [r90, if_neg (by omega)])
  refine ⟨frN_tr g1 (by rw [hu]; exact frN_90 kl), by rw [hu, ri3 (by decide)]; exact g2, u.1, u.2.1, s.1, ?_, fun i hi => ?_, ?_, fun i hi hi2 => ?_⟩
  · rw [s.2, vn]
    exact Nat.div_lt_of_lt_mul w.2.2
  · rw [cs] at hi
    rw [r90]
    by_cases e : i = k.toNatClampNeg
    · rw [e, if_pos rfl]; exact a.2
    · rw [if_neg (by omega)]; exact g7 i (by omega)
  · rw [cs, dv_s, dv_s, old, r90, if_pos rfl, pw_s, s.2, an]
    exact ar_u g8 vn
  · rw [cs] at hi
    rw [r90, if_neg (by omega)]
    exact g9 i (by omega) hi2
theorem dg_c {b c : Int32} (h1 : b ≤ 15) (c0 : 0 ≤ c) (c1 : c.toNatClampNeg < 2 ^ b.toNatClampNeg) : 0 ≤ c ∧ c < 65536 := by
  have l := cn_le (y := 15) (n := 15) rfl h1
  have p : 2 ^ b.toNatClampNeg ≤ 32768 := Nat.pow_le_pow_right (n := 2) (j := 15) (by decide) l
  refine ⟨c0, Int32.lt_iff_toInt_lt.mpr ?_⟩
  have := cn_int c0
  rw [show (65536 : Int32).toInt = 65536 from rfl]
  omega
theorem shiftUp_c {C : rCx} (hC : cOK C)  {σ : rS} {a1 : Int32} {a2 : Int32} {Q : rS → Prop} (hp : 0 ≤ a1 ∧ a1 < 30 ∧ 0 ≤ a2 ∧ a2 ≤ 15 ∧ numO σ a1.toNatClampNeg ∧ nL σ a1.toNatClampNeg < 40000) (h : ∀ (σ' : rS), (frN [a1.toNatClampNeg] σ σ' ∧ numO σ' a1.toNatClampNeg ∧ nV σ' a1.toNatClampNeg = nV σ a1.toNatClampNeg * 2 ^ a2.toNatClampNeg ∧ nL σ' a1.toNatClampNeg ≤ nL σ a1.toNatClampNeg + 1) → Q σ') : cV C 1 m_shiftUp [.ref (co C), .int a1, .int a2] σ Q := by
  refine m_shiftUp_run hC ?_
  unfold w_shiftUp_0
  obtain ⟨h0, h1, h2, h3, hr, hL⟩ := hp
  unfold w_shiftUp_5
  refine ⟨fun n l1 l2 l3 l4 τ => n = (rd σ 91 a1 - l4).toNatClampNeg ∧ (l1 = a1 ∧ l2 = a2 ∧ upI σ τ a1.toNatClampNeg a2 l3 l4), ⟨_, rfl, ?_⟩, ?_⟩
  · clear h; refine ⟨rfl, rfl, frN_refl, rfl, by decide, hr.1, by decide, Nat.two_pow_pos _, fun i hi => absurd hi (Nat.not_lt_zero i), ?_, fun i _ _ => rfl⟩
    show 0 + 0 * 65536 ^ 0 = 0 * _
    rw [Nat.zero_mul, Nat.zero_mul]
  rintro n5 x5_1 x5_2 x5_3 x5_4 σ5 ⟨hn5, i5⟩
  obtain ⟨e1, e2, I⟩ := i5
  refine ⟨ib_30.mpr ?_, ?_⟩
  · clear h; rw [e1]; exact ⟨h0, h1⟩  -- b2
  refine ⟨fun c1 => ?_, fun c1 => ?_⟩
  · skip
    refine ⟨ib_30.mpr ?_, ?_⟩
    · clear h; rw [e1]; exact ⟨h0, h1⟩  -- b3
    rw [e1, I.2.1] at c1
    have ek : x5_4 = σ.2.2.1 91 a1.toNatClampNeg := Int32.le_antisymm I.2.2.2.1 c1
    have L2 : x5_4.toNatClampNeg = nL σ a1.toNatClampNeg := by rw [ek]
    have np := n1p hr.1 (le_of_n hr.1 hL)
    have bn := bx h0 h1 hr.1 np.2.2.2.1
    have cs := cn_succ hr.1 np.2.2.2.2
    have eq : rd σ5 91 x5_1 = σ.2.2.1 91 a1.toNatClampNeg := by rw [rd, e1, I.2.1]
    refine ⟨ib_1200000.mpr ?_, ?_⟩
    · clear h; show 0 ≤ 40000 * x5_1 + rd σ5 91 x5_1 ∧ 40000 * x5_1 + rd σ5 91 x5_1 < _
      rw [eq, e1]; exact ⟨bn.1, bn.2.2.1 np.2.2.1⟩
    intro σ_2 hσ_2
    refine ⟨ib_30.mpr ?_, ?_⟩
    · clear h; rw [e1]; exact ⟨h0, h1⟩  -- b5
    refine ⟨ib_30.mpr ?_, ?_⟩
    · clear h; rw [e1]; exact ⟨h0, h1⟩  -- b6
    intro σ_3 hσ_3
    have s2 : σ_2 = riU σ5 90 (40000 * a1.toNatClampNeg + nL σ a1.toNatClampNeg) x5_3 := by
      rw [hσ_2]
      show riU σ5 90 (40000 * x5_1 + rd σ5 91 x5_1).toNatClampNeg _ = _
      rw [eq, e1, bn.2.1]
    have s3 : σ_3 = riU σ_2 91 a1.toNatClampNeg (σ.2.2.1 91 a1.toNatClampNeg + 1) := by rw [hσ_3, e1, s2, ri3 (by decide), I.2.1]
    have el : σ_3.2.2.1 91 a1.toNatClampNeg = σ.2.2.1 91 a1.toNatClampNeg + 1 := by rw [s3, ri4, if_pos rfl]
    have r90 : ∀ j, σ_3.2.2.1 90 j = if j = 40000 * a1.toNatClampNeg + nL σ a1.toNatClampNeg then x5_3 else σ5.2.2.1 90 j := fun j => by rw [s3, ri3 (by decide), s2, ri4]
    have LL : nL σ_3 a1.toNatClampNeg = nL σ a1.toNatClampNeg + 1 := by show (σ_3.2.2.1 91 a1.toNatClampNeg).toNatClampNeg = _; rw [el, cs]
    have dd := I.2.2.2.2.2.2.1
    rw [L2] at dd
    refine trim_v hC  ?_ (fun σ_4 q5 => ?_)
    · clear h; rw [e1]
      refine ⟨h0, h1, by rw [rd, el]; exact np.1, by rw [rd, el]; exact np.2.1, fun i hi => ?_⟩
      rw [LL] at hi
      rw [r90]
      by_cases e : i = nL σ a1.toNatClampNeg
      · rw [e, if_pos rfl]; exact dg_c h3 I.2.2.2.2.1 I.2.2.2.2.2.1
      · rw [if_neg (by omega)]; exact dd i (by omega)
    rw [e1] at q5
    refine h _ ?_
    · clear h; have F : frN [a1.toNatClampNeg] σ5 σ_3 := by rw [s3, s2]; exact frN_tr (frN_90 hL) frN_91
      refine ⟨frN_tr I.1 (frN_tr F q5.1), q5.2.1, ?_, by rw [← LL]; exact q5.2.2.2⟩
      have o : dv (σ_3.2.2.1 90) (40000 * a1.toNatClampNeg) (nL σ a1.toNatClampNeg) = dv (σ5.2.2.1 90) (40000 * a1.toNatClampNeg) (nL σ a1.toNatClampNeg) := dv_congr (fun i hi => by rw [r90, if_neg (by omega)])
      have v := I.2.2.2.2.2.2.2.1
      rw [L2] at v
      rw [q5.2.2.1, LL, dv_s, r90, if_pos rfl, o, v]
      rfl
  · skip
    rw [e1, I.2.1] at c1
    have u := mn_u I.2.2.1 c1 hr.2.1
    have bb := bx h0 h1 I.2.2.1 u.2.2.2.2.2.1
    refine ⟨ib_1200000.mpr ?_, ?_⟩
    · clear h; rw [e1]; exact ⟨bb.1, bb.2.2.1 u.2.2.2.2.1⟩  -- b9
    intro x6 hx6
    refine ⟨ib_1200000.mpr ?_, ?_⟩
    · clear h; rw [e1]; exact ⟨bb.1, bb.2.2.1 u.2.2.2.2.1⟩  -- b10
    intro σ_7 hσ_7
    intro x8 hx8
    intro x9 hx9
    refine ⟨_, cn_lt2 hn5 ?_ ?_, rfl, ?_⟩
    · clear h; rw [hx9]; exact u.2.2.1  -- d11
    · clear h; rw [hx9]; exact u.2.2.2.1  -- d12
    · clear h; rw [hx9]
      rw [e1, bb.2.1] at hσ_7 hx6
      rw [e2] at hx6
      exact ⟨e1, e2, up_step I hr h2 h3 c1 hx6 hx8 hσ_7⟩

/-- the place k of a number, 0 behind its own places -/
def dgt (σ : rS) (r k : Nat) : Nat := if k < nL σ r then (σ.2.2.1 90 (40000 * r + k)).toNatClampNeg else 0
theorem ar_q {q h x y w : Nat} (hq : 0 < q) (e : q * h = 65536) (hw : w = x / q + y % q * h) : q * w + x % q = x + y % q * 65536 := by
  have m := Nat.div_add_mod x q
  rw [hw, Nat.mul_add, Nat.mul_left_comm q (y % q) h, e]
  omega
theorem dn_v {x y b : Int32} (hx : 0 ≤ x ∧ x < 65536) (hy : 0 ≤ y ∧ y < 65536) (h0 : 0 ≤ b) (h1 : b ≤ 15) : (0 ≤ ((x >>> (b &&& 31)) ||| (y <<< ((16 - b) &&& 31))) &&& 65535 ∧ ((x >>> (b &&& 31)) ||| (y <<< ((16 - b) &&& 31))) &&& 65535 < 65536) ∧ 2 ^ b.toNatClampNeg * (((x >>> (b &&& 31)) ||| (y <<< ((16 - b) &&& 31))) &&& 65535).toNatClampNeg + x.toNatClampNeg % 2 ^ b.toNatClampNeg = x.toNatClampNeg + y.toNatClampNeg % 2 ^ b.toNatClampNeg * 65536 := by
  have l := cn_le (y := 15) (n := 15) rfl h1
  have c : 0 ≤ 16 - b ∧ 16 - b ≤ 16 := by grind
  have cb : (16 - b).toNatClampNeg = 16 - b.toNatClampNeg := by
    have a := cn_int c.1
    have e := i_sub (x := 16) (y := b) (by decide) h0
    rw [e, show (16 : Int32).toInt = 16 from rfl] at a
    have d := cn_int h0
    omega
  have p := p16 (n := b.toNatClampNeg) (by omega)
  have s := shl_n hy c.1 c.2
  have t := sar_n hx h0 (Int32.le_trans h1 (by decide))
  have dx := (d_n hx).1
  have dy := (d_n hy).1
  rw [cb] at s
  have lt : x.toNatClampNeg / 2 ^ b.toNatClampNeg < 2 ^ (16 - b.toNatClampNeg) := Nat.div_lt_of_lt_mul (by omega)
  have a := and16g (x := (x >>> (b &&& 31)) ||| (y <<< ((16 - b) &&& 31)))
  have e : (((x >>> (b &&& 31)) ||| (y <<< ((16 - b) &&& 31))) &&& 65535).toBitVec.toNat = x.toNatClampNeg / 2 ^ b.toNatClampNeg + y.toNatClampNeg % 2 ^ b.toNatClampNeg * 2 ^ (16 - b.toNatClampNeg) := by
    rw [Int32.toBitVec_and, BitVec.toNat_and, show (65535 : Int32).toBitVec.toNat = 2 ^ 16 - 1 from rfl, Nat.and_two_pow_sub_one_eq_mod, Int32.toBitVec_or, BitVec.toNat_or, s.1, t, Nat.or_comm, ← Nat.shiftLeft_eq, ← Nat.shiftLeft_add_eq_or_of_lt lt, Nat.shiftLeft_eq]
    rw [show (2 : Nat) ^ 16 = 2 ^ b.toNatClampNeg * 2 ^ (16 - b.toNatClampNeg) from p.2.2.symm]
    rw [Nat.add_comm, Nat.add_mod, Nat.mul_mod_mul_right]
    have l1 : x.toNatClampNeg / 2 ^ b.toNatClampNeg % (2 ^ b.toNatClampNeg * 2 ^ (16 - b.toNatClampNeg)) = x.toNatClampNeg / 2 ^ b.toNatClampNeg := Nat.mod_eq_of_lt (Nat.lt_of_lt_of_le lt (Nat.le_mul_of_pos_left _ p.1))
    rw [l1]
    refine Nat.mod_eq_of_lt ?_
    have m : y.toNatClampNeg % 2 ^ b.toNatClampNeg + 1 ≤ 2 ^ b.toNatClampNeg := Nat.mod_lt _ p.1
    have m2 := Nat.mul_le_mul_right (2 ^ (16 - b.toNatClampNeg)) m
    rw [Nat.add_mul] at m2
    omega
  refine ⟨a.2, ?_⟩
  refine ar_q p.1 p.2.2 ?_
  rw [← e]
  exact (bn_n a.2.1).symm
def dnI (σ τ : rS) (r : Nat) (b k : Int32) : Prop := frN [r] σ τ ∧ τ.2.2.1 91 = σ.2.2.1 91 ∧ 0 ≤ k ∧ k ≤ σ.2.2.1 91 r ∧ dgO (τ.2.2.1 90) (40000 * r) k.toNatClampNeg ∧ 2 ^ b.toNatClampNeg * dv (τ.2.2.1 90) (40000 * r) k.toNatClampNeg + dgt σ r 0 % 2 ^ b.toNatClampNeg = dv (σ.2.2.1 90) (40000 * r) k.toNatClampNeg + dgt σ r k.toNatClampNeg % 2 ^ b.toNatClampNeg * 65536 ^ k.toNatClampNeg ∧ ∀ i, k.toNatClampNeg ≤ i → i < 40000 → τ.2.2.1 90 (40000 * r + i) = σ.2.2.1 90 (40000 * r + i)
theorem ar_d {q p D S w m n e x : Nat} (h : q * D + e = S + m * p) (hw : q * w + m = x + n * 65536) : q * (D + w * p) + e = S + x * p + n * (65536 * p) := by
  have g : (q * w + m) * p = (x + n * 65536) * p := by rw [hw]
  rw [Nat.add_mul, Nat.add_mul, Nat.mul_assoc, Nat.mul_assoc] at g
  rw [Nat.mul_add]
  omega
theorem dn_step {σ τ υ : rS} {r : Nat} {b k y : Int32} (h : dnI σ τ r b k) (hr : numO σ r) (b0 : 0 ≤ b) (b1 : b ≤ 15) (hk : ¬ σ.2.2.1 91 r ≤ k) (hy : (0 ≤ y ∧ y < 65536) ∧ y.toNatClampNeg = dgt σ r (k.toNatClampNeg + 1)) (hu : υ = riU τ 90 (40000 * r + k.toNatClampNeg) (((τ.2.2.1 90 (40000 * r + k.toNatClampNeg) >>> (b &&& 31)) ||| (y <<< ((16 - b) &&& 31))) &&& 65535)) : dnI σ υ r b (k + 1) := by
  obtain ⟨g1, g2, g3, g4, g5, g6, g7⟩ := h
  have u := mn_u g3 hk hr.2.1
  have cs := cn_succ g3 u.2.2.2.2.2.2.1
  have kr : k.toNatClampNeg < nL σ r := cn_lt g3 u.2.2.2.2.2.2.2
  have kl : k.toNatClampNeg < 40000 := by have := nL_le hr; omega
  rw [g7 _ (Nat.le_refl _) kl] at hu
  have w := dn_v (hr.2.2.1 _ kr) hy.1 b0 b1
  have r90 : ∀ j, υ.2.2.1 90 j = if j = 40000 * r + k.toNatClampNeg then (((σ.2.2.1 90 (40000 * r + k.toNatClampNeg) >>> (b &&& 31)) ||| (y <<< ((16 - b) &&& 31))) &&& 65535) else τ.2.2.1 90 j := fun j => by rw [hu, ri4]
  have old : dv (υ.2.2.1 90) (40000 * r) k.toNatClampNeg = dv (τ.2.2.1 90) (40000 * r) k.toNatClampNeg := dv_congr (fun i hi => by rw [r90, if_neg (by omega)])
  refine ⟨frN_tr g1 (by rw [hu]; exact frN_90 kl), by rw [hu, ri3 (by decide)]; exact g2, u.1, u.2.1, fun i hi => ?_, ?_, fun i hi hi2 => ?_⟩
  · rw [cs] at hi
    rw [r90]
    by_cases e : i = k.toNatClampNeg
    · rw [e, if_pos rfl]; exact w.1
    · rw [if_neg (by omega)]; exact g5 i (by omega)
  · rw [cs, dv_s, dv_s, old, r90, if_pos rfl, pw_s, ← hy.2]
    refine ar_d g6 ?_
    rw [show dgt σ r k.toNatClampNeg = (σ.2.2.1 90 (40000 * r + k.toNatClampNeg)).toNatClampNeg from if_pos kr]
    exact w.2
  · rw [cs] at hi
    rw [r90, if_neg (by omega)]
    exact g7 i (by omega) hi2
theorem dn_u {k n : Int32} (k0 : 0 ≤ k) (h : ¬ n ≤ k) (n1 : n ≤ 40000) (h2 : ¬ n ≤ k + 1) : 0 ≤ k + 1 ∧ k + 1 ≤ 40000 ∧ k + 1 < 40000 := by grind
theorem dv_q {q x r : Nat} (hq : 0 < q) : (q * x + r % q) / q = x := by
  rw [Nat.mul_add_div hq, Nat.div_eq_of_lt (Nat.mod_lt r hq), Nat.add_zero]
theorem shiftDown_c {C : rCx} (hC : cOK C)  {σ : rS} {a1 : Int32} {a2 : Int32} {Q : rS → Prop} (hp : 0 ≤ a1 ∧ a1 < 30 ∧ 0 ≤ a2 ∧ a2 ≤ 15 ∧ numO σ a1.toNatClampNeg) (h : ∀ (σ' : rS), (frN [a1.toNatClampNeg] σ σ' ∧ numO σ' a1.toNatClampNeg ∧ nV σ' a1.toNatClampNeg = nV σ a1.toNatClampNeg / 2 ^ a2.toNatClampNeg ∧ nL σ' a1.toNatClampNeg ≤ nL σ a1.toNatClampNeg) → Q σ') : cV C 1 m_shiftDown [.ref (co C), .int a1, .int a2] σ Q := by
  refine m_shiftDown_run hC ?_
  unfold w_shiftDown_0
  obtain ⟨h0, h1, h2, h3, hr⟩ := hp
  unfold w_shiftDown_2
  refine ⟨fun n l1 l2 l3 τ => n = (rd σ 91 a1 - l3).toNatClampNeg ∧ (l1 = a1 ∧ l2 = a2 ∧ dnI σ τ a1.toNatClampNeg a2 l3), ⟨_, rfl, ?_⟩, ?_⟩
  · clear h; refine ⟨rfl, rfl, frN_refl, rfl, by decide, hr.1, fun i hi => absurd hi (Nat.not_lt_zero i), ?_, fun i _ _ => rfl⟩
    show _ * 0 + dgt σ a1.toNatClampNeg 0 % _ = 0 + dgt σ a1.toNatClampNeg 0 % _ * 1
    omega
  rintro n2 x2_1 x2_2 x2_3 σ2 ⟨hn2, i2⟩
  have hj42 : ∀ (l1 : Int32) (l2 : Int32) (l3 : Int32) (s0 : Int32) (τ : rS), (l1 = a1 ∧ l2 = a2 ∧ τ = σ2 ∧ l3 = x2_3 ∧ ¬ rd σ 91 a1 ≤ x2_3 ∧ (0 ≤ s0 ∧ s0 < 65536) ∧ s0.toNatClampNeg = dgt σ a1.toNatClampNeg (x2_3.toNatClampNeg + 1)) → w_shiftDown_42 C Q (fun l1' l2' l3' τ => ∃ k < n2, (fun n l1 l2 l3 τ => n = (rd σ 91 a1 - l3).toNatClampNeg ∧ (l1 = a1 ∧ l2 = a2 ∧ dnI σ τ a1.toNatClampNeg a2 l3)) k l1' l2' l3' τ) l1 l2 l3 s0 τ := by
    rintro y42_1 y42_2 y42_3 y42_s0 τ42 j42
    unfold w_shiftDown_42
    obtain ⟨e1, e2, I⟩ := i2
    obtain ⟨f1, f2, f3, f4, f5, f6⟩ := j42
    have u := mn_u I.2.2.1 f5 hr.2.1
    have bb := bx h0 h1 I.2.2.1 u.2.2.2.2.2.1
    refine ⟨ib_1200000.mpr ?_, ?_⟩
    · clear h; rw [f1, f4]; exact ⟨bb.1, bb.2.2.1 u.2.2.2.2.1⟩  -- b2
    refine ⟨ib_1200000.mpr ?_, ?_⟩
    · clear h; rw [f1, f4]; exact ⟨bb.1, bb.2.2.1 u.2.2.2.2.1⟩  -- b3
    intro σ_1 hσ_1
    intro x2 hx2
    refine ⟨_, cn_lt2 hn2 ?_ ?_, rfl, ?_⟩
    · clear h; rw [hx2, f4]; exact u.2.2.1  -- d4
    · clear h; rw [hx2, f4]; exact u.2.2.2.1  -- d5
    · clear h; rw [hx2, f4]
      rw [f1, f2, f3, f4, bb.2.1] at hσ_1
      exact ⟨f1, f2, dn_step I hr h2 h3 f5 f6 hσ_1⟩
  obtain ⟨e1, e2, I⟩ := i2
  refine ⟨ib_30.mpr ?_, ?_⟩
  · clear h; rw [e1]; exact ⟨h0, h1⟩  -- b7
  refine ⟨fun c3 => ?_, fun c3 => ?_⟩
  · skip
    refine trim_v hC  ?_ (fun σ_4 q5 => ?_)
    · clear h; rw [e1, I.2.1] at c3
      have ek : x2_3 = σ.2.2.1 91 a1.toNatClampNeg := Int32.le_antisymm I.2.2.2.1 c3
      rw [e1]
      refine ⟨h0, h1, by rw [rd, I.2.1]; exact hr.1, by rw [rd, I.2.1]; exact hr.2.1, ?_⟩
      show dgO _ _ (σ2.2.2.1 91 a1.toNatClampNeg).toNatClampNeg
      rw [I.2.1, ← ek]
      exact I.2.2.2.2.1
    refine h _ ?_
    · clear h; rw [e1, I.2.1] at c3
      have ek : x2_3 = σ.2.2.1 91 a1.toNatClampNeg := Int32.le_antisymm I.2.2.2.1 c3
      have L2 : x2_3.toNatClampNeg = nL σ a1.toNatClampNeg := by rw [ek]
      have LL : nL σ2 a1.toNatClampNeg = nL σ a1.toNatClampNeg := by show (σ2.2.2.1 91 a1.toNatClampNeg).toNatClampNeg = _; rw [I.2.1]
      rw [e1, LL] at q5
      refine ⟨frN_tr I.1 q5.1, q5.2.1, ?_, q5.2.2.2⟩
      have v := I.2.2.2.2.2.1
      rw [L2, show dgt σ a1.toNatClampNeg (nL σ a1.toNatClampNeg) = 0 from if_neg (Nat.lt_irrefl _), Nat.zero_mod, Nat.zero_mul] at v
      rw [q5.2.2.1]
      have z : 2 ^ a2.toNatClampNeg * dv (σ2.2.2.1 90) (40000 * a1.toNatClampNeg) (nL σ a1.toNatClampNeg) + dgt σ a1.toNatClampNeg 0 % 2 ^ a2.toNatClampNeg = nV σ a1.toNatClampNeg := v
      rw [← z]
      exact (dv_q (Nat.two_pow_pos _)).symm
  · skip
    rw [e1, I.2.1] at c3
    have u := mn_u I.2.2.1 c3 hr.2.1
    have cs := cn_succ I.2.2.1 u.2.2.2.2.2.2.1
    refine ⟨ib_30.mpr ?_, ?_⟩
    · clear h; rw [e1]; exact ⟨h0, h1⟩  -- b10
    refine ⟨fun c6 => ?_, fun c6 => ?_⟩
    · skip
      refine hj42 _ _ _ _ _ ?_
      · clear h; rw [e1, I.2.1, cn_li hr.1 u.1, cs] at c6
        refine ⟨e1, e2, rfl, rfl, c3, ⟨by decide, by decide⟩, ?_⟩
        exact (if_neg (Nat.not_lt.mpr c6)).symm
    · skip
      rw [e1, I.2.1] at c6
      have w := dn_u I.2.2.1 c3 hr.2.1 c6
      have bs := bx h0 h1 w.1 w.2.1
      have ea : 40000 * x2_1 + x2_3 + 1 = 40000 * a1 + (x2_3 + 1) := by rw [e1, Int32.add_assoc]
      refine ⟨ib_1200000.mpr ?_, ?_⟩
      · clear h; rw [ea]; exact ⟨bs.1, bs.2.2.1 w.2.2⟩  -- b12
      refine hj42 _ _ _ _ _ ?_
      · clear h; rw [cn_li hr.1 u.1, cs] at c6
        have lt : x2_3.toNatClampNeg + 1 < nL σ a1.toNatClampNeg := Nat.not_le.mp c6
        have e9 : σ2.2.2.1 90 (40000 * x2_1 + x2_3 + 1).toNatClampNeg = σ.2.2.1 90 (40000 * a1.toNatClampNeg + (x2_3.toNatClampNeg + 1)) := by
          rw [ea, bs.2.1, cs]
          exact I.2.2.2.2.2.2 _ (by omega) (by have := nL_le hr; omega)
        refine ⟨e1, e2, rfl, rfl, c3, ?_, ?_⟩
        · rw [e9]; exact hr.2.2.1 _ lt
        · rw [e9]; exact (if_pos lt).symm
