set_option maxHeartbeats 1600000
/-! the class: Num: bits, values; trim, widen, put, small, copy, isOne, compare -/
theorem l63 {x : Int64} (h : 0 ≤ x.toInt) : x.toInt = (x.toBitVec.toNat : Int) := by
  have c : x.toInt = if 2 * x.toBitVec.toNat < 2 ^ 64 then (x.toBitVec.toNat : Int) else (x.toBitVec.toNat : Int) - (2 ^ 64 : Nat) := BitVec.toInt_eq_toNat_cond x.toBitVec
  have l : x.toBitVec.toNat < 2 ^ 64 := x.toBitVec.isLt
  split at c <;> omega
theorem w31 {x : Int32} (h : 0 ≤ x.toInt) : x.toBitVec.toNat = x.toNatClampNeg := by
  have c : x.toInt = if 2 * x.toBitVec.toNat < 2 ^ 32 then (x.toBitVec.toNat : Int) else (x.toBitVec.toNat : Int) - (2 ^ 32 : Nat) := BitVec.toInt_eq_toNat_cond x.toBitVec
  have l : x.toBitVec.toNat < 2 ^ 32 := x.toBitVec.isLt
  have k := cnk h
  split at c <;> omega
/-- the lowest 31 bits -/
theorem j_and {x : Int64} : (x &&& 2147483647).toInt = x.toInt % 2147483648 ∧ ((x &&& 2147483647).toInt32).toInt = x.toInt % 2147483648 := by
  have e : (x &&& 2147483647).toBitVec.toNat = x.toBitVec.toNat % 2147483648 := by
    rw [Int64.toBitVec_and, BitVec.toNat_and, show (2147483647 : Int64).toBitVec.toNat = 2 ^ 31 - 1 from rfl, Nat.and_two_pow_sub_one_eq_mod]
  have t : (x &&& 2147483647).toInt = ((x &&& 2147483647).toBitVec.toNat : Int) := BitVec.toInt_eq_toNat_of_lt (by rw [e]; omega)
  have c : x.toInt = if 2 * x.toBitVec.toNat < 2 ^ 64 then (x.toBitVec.toNat : Int) else (x.toBitVec.toNat : Int) - (2 ^ 64 : Nat) := BitVec.toInt_eq_toNat_cond x.toBitVec
  have r : (x &&& 2147483647).toInt = x.toInt % 2147483648 := by
    rw [t, e]
    split at c <;> omega
  refine ⟨r, ?_⟩
  rw [Int64.toInt_toInt32, r]
  exact Int.bmod_eq_of_le (by omega) (by omega)
/-- the bits above -/
theorem j_shr {x : Int64} (h : 0 ≤ x.toInt) : ((x.toUInt64 >>> ((31 : Int32).toInt64.toUInt64 &&& Int64.toUInt64 63)).toInt64).toInt = x.toInt / 2147483648 := by
  have e : ((x.toUInt64 >>> ((31 : Int32).toInt64.toUInt64 &&& Int64.toUInt64 63)).toInt64).toBitVec.toNat = x.toBitVec.toNat / 2147483648 := by
    rw [UInt64.toBitVec_toInt64, UInt64.toBitVec_shiftRight, Int64.toBitVec_toUInt64, BitVec.ushiftRight_eq', BitVec.toNat_ushiftRight, Nat.shiftRight_eq_div_pow]
    rfl
  have b := l63 h
  have lt : x.toBitVec.toNat < 2 ^ 64 := x.toBitVec.isLt
  have t : ((x.toUInt64 >>> ((31 : Int32).toInt64.toUInt64 &&& Int64.toUInt64 63)).toInt64).toInt = (((x.toUInt64 >>> ((31 : Int32).toInt64.toUInt64 &&& Int64.toUInt64 63)).toInt64).toBitVec.toNat : Int) := BitVec.toInt_eq_toNat_of_lt (by rw [e]; omega)
  rw [t, e, b]
  omega
theorem j_i32 {x : Int64} (h0 : 0 ≤ x.toInt) (h1 : x.toInt < 2147483648) : (x.toInt32).toInt = x.toInt := by
  rw [Int64.toInt_toInt32]
  exact Int.bmod_eq_of_le (by omega) (by omega)
theorem x64n {x : Int32} (h : 0 ≤ x.toInt) : (x.toInt64).toBitVec.toNat = x.toNatClampNeg := by
  have k := cnk h
  have e : (x.toInt64).toInt = x.toInt := Int32.toInt_toInt64 x
  have b := l63 (x := x.toInt64) (by omega)
  omega
/-- a long number, 31 bits higher, and a limb -/
theorem j_top {a : Int64} {y : Int32} (ha : 0 ≤ a.toInt) (h1 : a.toInt < 4294967296) (hy : 0 ≤ y.toInt) : ((a <<< ((31 : Int32).toInt64 &&& 63)) ||| y.toInt64).toInt = a.toInt * 2147483648 + y.toInt := by
  have b := l63 ha
  have k := cnk hy
  have ky := ihi y
  have e : ((a <<< ((31 : Int32).toInt64 &&& 63)) ||| y.toInt64).toBitVec.toNat = a.toBitVec.toNat * 2147483648 + y.toNatClampNeg := by
    rw [Int64.toBitVec_or, BitVec.toNat_or, x64n hy, Int64.toBitVec_shiftLeft, BitVec.shiftLeft_eq', show (((31 : Int32).toInt64 &&& 63).toBitVec.smod 64).toNat = 31 from rfl, BitVec.toNat_shiftLeft, Nat.mod_eq_of_lt (by rw [Nat.shiftLeft_eq]; omega), ← Nat.shiftLeft_add_eq_or_of_lt (by omega), Nat.shiftLeft_eq]
  have t : ((a <<< ((31 : Int32).toInt64 &&& 63)) ||| y.toInt64).toInt = (((a <<< ((31 : Int32).toInt64 &&& 63)) ||| y.toInt64).toBitVec.toNat : Int) := BitVec.toInt_eq_toNat_of_lt (by rw [e]; omega)
  rw [t, e]
  omega
/-- what limbs are worth -/
def uV (f : Nat → Int32) : Nat → Nat
  | 0 => 0
  | n + 1 => uV f n + (f n).toNatClampNeg * 2147483648 ^ n
theorem uV_e {f g : Nat → Int32} : ∀ {n : Nat}, (∀ i, i < n → f i = g i) → uV f n = uV g n
  | 0, _ => rfl
  | n + 1, h => by
    show uV f n + (f n).toNatClampNeg * 2147483648 ^ n = uV g n + (g n).toNatClampNeg * 2147483648 ^ n
    rw [uV_e (fun i hi => h i (Nat.lt_succ_of_lt hi)), h n (Nat.lt_succ_self n)]
theorem lim31 (x : Int32) : x.toNatClampNeg < 2147483648 := by
  have h := ihi x
  by_cases z : 0 ≤ x.toInt
  · have := cnk z
    omega
  · have e : x.toNatClampNeg = x.toInt.toNat := rfl
    omega
theorem uV_lt {f : Nat → Int32} : ∀ {n : Nat}, uV f n < 2147483648 ^ n
  | 0 => show (0 : Nat) < 1 by decide
  | n + 1 => by
    have a := uV_lt (f := f) (n := n)
    have b := lim31 (f n)
    have p : 2147483648 ^ (n + 1) = 2147483648 * 2147483648 ^ n := by rw [Nat.pow_succ, Nat.mul_comm]
    have m := Nat.mul_le_mul_right (2147483648 ^ n) (Nat.le_of_lt_succ (Nat.succ_lt_succ b) : (f n).toNatClampNeg + 1 ≤ 2147483648)
    rw [Nat.add_mul] at m
    show uV f n + (f n).toNatClampNeg * 2147483648 ^ n < _
    omega
theorem uV_ge {f : Nat → Int32} {n : Nat} (h : 0 < (f n).toNatClampNeg) : 2147483648 ^ n ≤ uV f (n + 1) := by
  have m := Nat.mul_le_mul_right (2147483648 ^ n) h
  show _ ≤ uV f n + (f n).toNatClampNeg * 2147483648 ^ n
  omega
theorem uV_m {f : Nat → Int32} {m : Nat} : ∀ {n : Nat}, n ≤ m → uV f n ≤ uV f m := by
  induction m with
  | zero =>
    intro n h
    have : n = 0 := by omega
    rw [this]; exact Nat.le_refl _
  | succ m ih =>
    intro n h
    by_cases z : n = m + 1
    · rw [z]; exact Nat.le_refl _
    · have := ih (n := n) (by omega)
      show _ ≤ uV f m + _
      omega
def nuB (κ : zS) (x c : Nat) : Prop := (0 ≤ (zI κ nuLength x).toInt ∧ (zI κ nuLength x).toInt ≤ (zN κ (zR κ nuLimbs x))) ∧ (2 ≤ (zN κ (zR κ nuLimbs x)) ∧ (zN κ (zR κ nuLimbs x)) ≤ c) ∧ ∀ i : Nat, (i : Int) < (zI κ nuLength x).toInt → 0 ≤ (zA κ (zR κ nuLimbs x) i).toInt
def nuZ (κ : zS) (x : Nat) : Prop := 0 < (zI κ nuLength x).toInt → 0 < (zA κ (zR κ nuLimbs x) ((zI κ nuLength x).toInt - 1).toNat).toInt
def nuI (κ : zS) (x c : Nat) : Prop := nuB κ x c ∧ nuZ κ x
def nuN (κ : zS) (x : Nat) : Nat := uV (zA κ (zR κ nuLimbs x)) (zI κ nuLength x).toNatClampNeg
def nuK (κ : zS) (x : Nat) : Nat := (zI κ nuLength x).toNatClampNeg
abbrev nuF (x : Nat) : Nat → Nat → Prop := fun f b => b = x ∧ (f = nuLimbs ∨ f = nuLength)
theorem nuK_i {κ : zS} {x c : Nat} (h : nuB κ x c) : (nuK κ x : Int) = (zI κ nuLength x).toInt := cnk h.1.1
theorem nuN_lt {κ : zS} {x : Nat} : nuN κ x < 2147483648 ^ nuK κ x := uV_lt
theorem nuN_ge {κ : zS} {x c : Nat} (h : nuI κ x c) (k : 0 < nuK κ x) : 2147483648 ^ (nuK κ x - 1) ≤ nuN κ x := by
  have i := nuK_i h.1
  have z := h.2 (by omega)
  have e : ((zI κ nuLength x).toInt - 1).toNat = nuK κ x - 1 := by omega
  rw [e] at z
  have kz := cnk (x := zA κ (zR κ nuLimbs x) (nuK κ x - 1)) (by omega)
  have q := uV_ge (f := zA κ (zR κ nuLimbs x)) (n := nuK κ x - 1) (by omega)
  have e2 : nuK κ x - 1 + 1 = nuK κ x := by omega
  rw [e2] at q
  exact q
theorem p31_lt {a b : Nat} (h : 2147483648 ^ a < 2147483648 ^ b) : a < b := (Nat.pow_lt_pow_iff_right (by decide)).mp h
/-- lengths follow from values -/
theorem nuK_lt {κ : zS} {x c k : Nat} (h : nuI κ x c) (l : nuN κ x < 2147483648 ^ k) : nuK κ x ≤ k := by
  by_cases z : nuK κ x = 0
  · omega
  · have g := nuN_ge h (by omega)
    have := p31_lt (Nat.lt_of_le_of_lt g l)
    omega
theorem nuK_le {κ τ : zS} {x y c d : Nat} (h : nuI κ x c) (l : nuN κ x ≤ nuN τ y) : nuK κ x ≤ nuK τ y := nuK_lt h (Nat.lt_of_le_of_lt l nuN_lt)
theorem nuK_z {κ : zS} {x c : Nat} (h : nuI κ x c) : nuK κ x = 0 ↔ nuN κ x = 0 := by
  refine ⟨fun z => ?_, fun z => ?_⟩
  · have := nuN_lt (κ := κ) (x := x)
    rw [z] at this
    omega
  · have := nuK_lt (k := 0) h (by rw [z]; decide)
    omega
/-- a number that isn't touched -/
theorem nu_z {C : zC} {n0 y : Nat} {F : Nat → Nat → Prop} {κ τ : zS} (W : zW C n0 κ) (T : zT κ y = 8) (Z : zF F κ τ) (h1 : ¬ F nuLimbs y) (h2 : ¬ F nuLength y) : zI τ nuLength y = zI κ nuLength y ∧ zR τ nuLimbs y = zR κ nuLimbs y ∧ zA τ (zR κ nuLimbs y) = zA κ (zR κ nuLimbs y) ∧ zN τ (zR κ nuLimbs y) = zN κ (zR κ nuLimbs y) := by
  have q := (Z.row W (show zr nuLimbs = some 20 by decide +kernel) (by decide) T h1).1
  rw [Z.r h1] at q
  exact ⟨Z.i h2, Z.r h1, q, Z.l (ty_nuLimbs W T)⟩
theorem nuB_z {C : zC} {n0 y c : Nat} {F : Nat → Nat → Prop} {κ τ : zS} (W : zW C n0 κ) (T : zT κ y = 8) (Z : zF F κ τ) (h1 : ¬ F nuLimbs y) (h2 : ¬ F nuLength y) : (nuB κ y c → nuB τ y c) ∧ (nuI κ y c → nuI τ y c) ∧ nuN τ y = nuN κ y ∧ nuK τ y = nuK κ y := by
  obtain ⟨a, b, d, e⟩ := nu_z W T Z h1 h2
  refine ⟨fun h => ?_, fun h => ?_, ?_, ?_⟩
  · unfold nuB
    rw [a, b, d, e]; exact h
  · unfold nuI nuB nuZ
    rw [a, b, d, e]; exact h
  · unfold nuN
    rw [a, b, d]
  · unfold nuK
    rw [a]
/-- what a longer row of limbs costs -/
theorem nu_c {o m n : Nat} (h : o < m) (hn : m + m / 2 + 1 ≤ n) : n + wS 800 o ≤ wS 800 n ∧ 4 + wC 800 o ≤ wC 800 n := by
  have e1 : ∀ k, wS 800 k = 3 * k + 2 := fun k => rfl
  have e2 : ∀ k, wC 800 k = 2 * k + 8 := fun k => rfl
  rw [e1, e1, e2, e2]
  omega
theorem hf_i {x : Int32} (h0 : 0 ≤ x.toInt) (h1 : x.toInt ≤ 40000000) : (x + x / 2 + 1).toInt = x.toInt + x.toInt / 2 + 1 := by
  have d := div_i (y := 2) h0 (by decide)
  rw [t2i] at d
  have e : (x + x / 2).toInt = x.toInt + x.toInt / 2 := by rw [add_i (by rw [d]; omega) (by rw [d]; omega), d]
  rw [add_i (by rw [e, t1i]; omega) (by rw [e, t1i]; omega), e, t1i]
/-- only the length was written -/
def nuT (κ τ : zS) (x : Nat) : Prop := zF (nuF x) κ τ ∧ zR τ = zR κ ∧ zA τ = zA κ ∧ zN τ = zN κ ∧ ∀ f b, ¬ (f = nuLength ∧ b = x) → zI τ f b = zI κ f b
theorem nuT.rf {κ : zS} {x : Nat} : nuT κ κ x := ⟨zF.rf, rfl, rfl, rfl, fun _ _ _ => rfl⟩
theorem nuT_i {κ τ σ : zS} {x : Nat} {v : Int32} (h : nuT κ τ x) (e : σ = ui τ nuLength x v) : nuT κ σ x ∧ zI σ nuLength x = v := ⟨⟨h.1.tr (by rw [e]; exact zF_ui ⟨rfl, Or.inr rfl⟩), by rw [e]; exact h.2.1, by rw [e]; exact h.2.2.1, by rw [e]; exact h.2.2.2.1, fun f b z => by rw [e]; exact (if_neg z).trans (h.2.2.2.2 f b z)⟩, by rw [e]; exact if_pos ⟨rfl, rfl⟩⟩
/-- a length without its leading noughts -/
def nuR (κ τ : zS) (x : Nat) : Prop := nuT κ τ x ∧ (0 ≤ (zI τ nuLength x).toInt ∧ (zI τ nuLength x).toInt ≤ (zI κ nuLength x).toInt) ∧ uV (zA κ (zR κ nuLimbs x)) (zI τ nuLength x).toNatClampNeg = nuN κ x
theorem nuR_s {κ τ σ : zS} {x : Nat} (h : nuR κ τ x) (l : 0 < (zI τ nuLength x).toInt) (z : zA τ (zR τ nuLimbs x) (zI τ nuLength x - 1).toNatClampNeg = 0) (e : σ = ui τ nuLength x (zI τ nuLength x - 1)) : nuR κ σ x ∧ (zI σ nuLength x).toInt = (zI τ nuLength x).toInt - 1 := by
  obtain ⟨a, b, c⟩ := h
  obtain ⟨g1, g2⟩ := nuT_i a e
  have d := dec_i l
  have k := cnk (x := zI τ nuLength x) (by omega)
  have k1 := cnk (x := zI τ nuLength x - 1) (by omega)
  have e9 : (zI τ nuLength x).toNatClampNeg = (zI τ nuLength x - 1).toNatClampNeg + 1 := by omega
  refine ⟨⟨g1, by rw [g2, d]; omega, ?_⟩, by rw [g2, d]⟩
  rw [g2, ← c, e9]
  show _ = uV _ (zI τ nuLength x - 1).toNatClampNeg + _
  rw [a.2.1, a.2.2.1] at z
  rw [z]
  show _ = _ + 0 * _
  omega
theorem nuR_e {κ τ : zS} {x c : Nat} (h : nuR κ τ x) (B : nuB κ x c) (z : (zI τ nuLength x).toInt ≤ 0 ∨ zA τ (zR τ nuLimbs x) (zI τ nuLength x - 1).toNatClampNeg ≠ 0) : nuI τ x c ∧ nuN τ x = nuN κ x ∧ nuK τ x ≤ nuK κ x := by
  obtain ⟨a, b, c9⟩ := h
  obtain ⟨B1, B2, B3⟩ := B
  have k := cnk (x := zI τ nuLength x) (by omega)
  have kk := cnk (x := zI κ nuLength x) (by omega)
  refine ⟨⟨⟨?_, ?_, fun i hi => ?_⟩, fun l => ?_⟩, ?_, ?_⟩
  · rw [a.2.1, a.2.2.2.1]; omega
  · rw [a.2.1, a.2.2.2.1]; exact B2
  · rw [a.2.1, a.2.2.1]; exact B3 i (by omega)
  · rcases z with z | z
    · omega
    · have d := dec_i l
      have k1 := cnk (x := zI τ nuLength x - 1) (by omega)
      have e : ((zI τ nuLength x).toInt - 1).toNat = (zI τ nuLength x - 1).toNatClampNeg := by omega
      rw [e]
      have p := B3 (zI τ nuLength x - 1).toNatClampNeg (by omega)
      rw [← a.2.1, ← a.2.2.1] at p
      have nz : (zA τ (zR τ nuLimbs x) (zI τ nuLength x - 1).toNatClampNeg).toInt ≠ 0 := fun y => z (Int32.toInt_inj.mp y)
      omega
  · unfold nuN
    rw [a.2.1, a.2.2.1]
    exact c9
  · unfold nuK
    omega
theorem Nu_trim_c {C : zC} {n0 : Nat} {a0 : Nat} {κ : zS} {Q : zS → Prop} (W : zW C n0 κ) (Ta0 : zT κ a0 = 8) (c9 : Nat) (hp : nuB κ a0 c9) (h : ∀ (κ' : zS), (nuT κ κ' a0 ∧ nuI κ' a0 c9 ∧ nuN κ' a0 = nuN κ a0 ∧ nuK κ' a0 ≤ nuK κ a0) → Q κ') : zRun C 0 mNu_trim [.ref a0] κ (oV Q noX) := by
  refine Nu_trim_run W Ta0 ?_
  replace W := W.lo (Nat.le_trans W.1.2.1 W.1.2.2) (Nat.le_refl (zn κ))
  unfold w_Nu_trim_0
  refine ⟨fun n l0 τ => n = ((zI τ nuLength a0).toInt).toNat ∧ (a0 = l0 ∧ nuR κ τ a0), ⟨_, rfl, ?_⟩, ?_⟩
  · exact ⟨rfl, nuT.rf, ⟨hp.1.1, Int.le_refl _⟩, rfl⟩  -- j1
  rintro n0 _ κ0 W0 T0_0 ⟨hn0, rfl, i0⟩
  refine ⟨fun c1 => ?_, fun c1 => ?_⟩
  · skip
    refine h _ ?_
    · rw [lei, t0i] at c1
      have q := nuR_e i0 hp (Or.inl c1)
      exact ⟨i0.1, q⟩
  · skip
    rw [lei, t0i] at c1
    have l1 := hp.1
    have l2 := i0.2.1
    have d := dec_i (x := zI κ0 nuLength a0) (by omega)
    refine ⟨?_, ?_⟩
    · rw [i0.1.2.1, i0.1.2.2.2.1, inb_iff, d]; omega  -- b3
    refine ⟨fun c2 => ?_, fun c2 => ?_⟩
    · skip
      refine h _ ?_
      · have q := nuR_e i0 hp (Or.inr c2)
        exact ⟨i0.1, q⟩
    · skip
      intro κ_3 hκ_3
      intro W4
      refine ⟨_, ?_, rfl, ?_⟩
      · have s := nuR_s i0 (by omega) c2 hκ_3
        rw [hn0]; omega
      · exact ⟨rfl, (nuR_s i0 (by omega) c2 hκ_3).1⟩  -- i6

theorem Nu_widen_c {C : zC} {n0 : Nat} {a0 : Nat} {a1 : Int32} {κ : zS} {Q : zS → Prop} (W : zW C n0 κ) (Ta0 : zT κ a0 = 8)  (hp : (0 ≤ a1.toInt ∧ a1.toInt ≤ 40000000) ∧ 2 ≤ (zN κ (zR κ nuLimbs a0))) (h : ∀ (κ' : zS), (zF (nuF a0) κ κ' ∧ zI κ' = zI κ ∧ (∀ g b, ¬ (g = nuLimbs ∧ b = a0) → zR κ' g b = zR κ g b) ∧ (a1.toInt ≤ (zN κ' (zR κ' nuLimbs a0)) ∧ (zN κ (zR κ nuLimbs a0)) ≤ (zN κ' (zR κ' nuLimbs a0)) ∧ ((zN κ' (zR κ' nuLimbs a0)) = (zN κ (zR κ nuLimbs a0)) ∨ (zN κ' (zR κ' nuLimbs a0)) ≤ a1.toInt + a1.toInt / 2 + 1)) ∧ ∀ i, i < (zN κ (zR κ nuLimbs a0)) → zA κ' (zR κ' nuLimbs a0) i = zA κ (zR κ nuLimbs a0) i) → Q κ') : zRun C 2 mNu_widen [.ref a0, .int a1] κ (oV Q noX) := by
  refine Nu_widen_run W Ta0 ?_
  replace W := W.lo (Nat.le_trans W.1.2.1 W.1.2.2) (Nat.le_refl (zn κ))
  unfold w_Nu_widen_0
  have oN := W.n (ty_nuLimbs W Ta0)
  have hf := hf_i hp.1.1 hp.1.2
  have h0 := hp.1
  refine ⟨fun c1 => ?_, fun c1 => ?_⟩
  · skip
    refine h _ ?_
    · rw [lei, ofn_i oN] at c1
      exact ⟨zF.rf, rfl, fun _ _ _ => rfl, ⟨c1, Nat.le_refl _, Or.inl rfl⟩, fun _ _ => rfl⟩
  · skip
    refine ⟨?_, ?_⟩
    · decide  -- b2
    intro T2
    rw [lei, ofn_i oN] at c1
    have kx := cnk (x := a1 + a1 / 2 + 1) (by omega)
    refine Ar_copyOf_c W T2  ?_ (fun r3 κ_4 q5 => ?_)
    · exact ⟨⟨by rw [lei, t0i]; omega, by omega⟩, fun e => by
        have e9 := congrArg Int32.toInt e
        rw [ofn_i oN] at e9
        omega⟩
    intro W6
    intro M7
    intro T8
    refine ⟨?_, ?_⟩
    · rw [q5.1]; exact q5.2.2.1  -- b4
    intro κ_9 hκ_9
    intro W10
    refine h _ ?_
    · have h8 : κ_9 = uo κ_4 nuLimbs a0 (zn κ) := by rw [hκ_9, q5.1]
      have k1 := nu_c (o := zN κ (zR κ nuLimbs a0)) (m := a1.toInt.toNat) (n := (a1 + a1 / 2 + 1).toNatClampNeg) (by omega) (by omega)
      obtain ⟨F1, u1, u2, u3, u4, u5, u6⟩ := gr_g (f := nuLimbs) W (show zr nuLimbs = some 20 by decide +kernel) (by decide) Ta0 q5.2 h8 k1.1 k1.2
      refine ⟨F1.mono (fun f x z => ⟨z.2, Or.inl z.1⟩), u1, u2, ?_, fun i hi => ?_⟩
      · rw [u3, u4]
        omega
      · rw [u3]
        exact u6 i (by omega) hi

theorem uV_1 {f : Nat → Int32} : uV f 1 = (f 0).toNatClampNeg := by
  show 0 + (f 0).toNatClampNeg * 2147483648 ^ 0 = _
  omega
theorem uV_2 {f : Nat → Int32} : uV f 2 = (f 0).toNatClampNeg + (f 1).toNatClampNeg * 2147483648 := by
  show 0 + (f 0).toNatClampNeg * 2147483648 ^ 0 + (f 1).toNatClampNeg * 2147483648 ^ 1 = _
  omega
theorem uV_cmp {f g : Nat → Int32} {i : Nat} (h : (f i).toNatClampNeg < (g i).toNatClampNeg) : ∀ {n : Nat}, i < n → (∀ j, i < j → j < n → f j = g j) → uV f n < uV g n
  | 0, hi, _ => absurd hi (Nat.not_lt_zero _)
  | n + 1, hi, he => by
    show uV f n + (f n).toNatClampNeg * 2147483648 ^ n < uV g n + (g n).toNatClampNeg * 2147483648 ^ n
    by_cases z : i = n
    · subst z
      have a := uV_lt (f := f) (n := i)
      have m := Nat.mul_le_mul_right (2147483648 ^ i) h
      rw [Nat.succ_mul] at m
      omega
    · have a := uV_cmp h (n := n) (by omega) (fun j h1 h2 => he j h1 (by omega))
      rw [he n (by omega) (Nat.lt_succ_self n)]
      omega
theorem Nu_isOne_c {C : zC} {n0 : Nat} {a0 : Nat} {κ : zS} {Q : Int32 → zS → Prop} (W : zW C n0 κ) (Ta0 : zT κ a0 = 8) (c9 : Nat) (hp : nuI κ a0 c9) (h : ∀ (v : Int32), (nb v ∧ (v ≠ 0 ↔ nuN κ a0 = 1)) → Q v κ) : zRun C 0 mNu_isOne [.ref a0] κ (oI Q noX) := by
  refine Nu_isOne_run W Ta0 ?_
  replace W := W.lo (Nat.le_trans W.1.2.1 W.1.2.2) (Nat.le_refl (zn κ))
  unfold w_Nu_isOne_0
  have k := nuK_i hp.1
  have lz := hp.1.2.1
  refine ⟨fun c1 => ?_, fun c1 => ?_⟩
  · skip
    refine h _ ?_
    · refine ⟨nb_0, fun z => absurd rfl z, fun z => ?_⟩
      have a := nuK_lt (k := 1) hp (by rw [z]; decide)
      have b : nuK κ a0 ≠ 0 := fun y => by
        have := (nuK_z hp).mp y
        omega
      exact absurd (Int32.toInt_inj.mp (by rw [t1i]; omega)) c1
  · skip
    refine ⟨?_, ?_⟩
    · rw [inb_iff, t0i]; omega  -- b2
    have e : nuN κ a0 = (zA κ (zR κ nuLimbs a0) 0).toNatClampNeg := by
      unfold nuN
      rw [c1]
      exact uV_1
    have l0 := hp.1.2.2 0 (by rw [c1]; decide)
    have k0 := cnk l0
    refine ⟨fun c2 => ?_, fun c2 => ?_⟩
    · skip
      refine h _ ?_
      · refine ⟨nb_0, fun z => absurd rfl z, fun z => ?_⟩
        exact absurd (Int32.toInt_inj.mp (show (zA κ (zR κ nuLimbs a0) 0).toInt = (1 : Int32).toInt by rw [t1i]; omega)) c2
    · skip
      refine h _ ?_
      · refine ⟨nb_1, fun _ => ?_, fun _ => by decide⟩
        have c3 : zA κ (zR κ nuLimbs a0) 0 = 1 := c2
        rw [e, c3]
        rfl

theorem Nu_put_c {C : zC} {n0 : Nat} {a0 : Nat} {a1 : Int64} {κ : zS} {Q : zS → Prop} (W : zW C n0 κ) (Ta0 : zT κ a0 = 8) (c9 : Nat) (hp : (0 ≤ a1.toInt ∧ a1.toInt < 4611686018427387904) ∧ 2 ≤ (zN κ (zR κ nuLimbs a0)) ∧ (zN κ (zR κ nuLimbs a0)) ≤ c9) (h : ∀ (κ' : zS), (zF (nuF a0) κ κ' ∧ (zR κ' = zR κ ∧ zN κ' = zN κ) ∧ nuI κ' a0 c9 ∧ nuN κ' a0 = a1.toInt.toNat) → Q κ') : zRun C 0 mNu_put [.ref a0, .long a1] κ (oV Q noX) := by
  refine Nu_put_run W Ta0 ?_
  replace W := W.lo (Nat.le_trans W.1.2.1 W.1.2.2) (Nat.le_refl (zn κ))
  unfold w_Nu_put_0
  obtain ⟨p1, p2, p3⟩ := hp
  have ow := W.o (show zr nuLimbs = some 20 by decide +kernel) (by decide) Ta0
  have d0 := (j_and (x := a1)).2
  have d1 := j_shr (x := a1) p1.1
  have d2 := j_i32 (x := (a1.toUInt64 >>> ((31 : Int32).toInt64.toUInt64 &&& Int64.toUInt64 63)).toInt64) (by rw [d1]; omega) (by rw [d1]; omega)
  rw [d1] at d2
  refine ⟨?_, ?_⟩
  · rw [inb_iff, t0i]; omega  -- b1
  intro κ_1 hκ_1
  intro W2
  have z1 : zR κ_1 = zR κ := by rw [hκ_1]; rfl
  have n1 : zN κ_1 = zN κ := by rw [hκ_1]; rfl
  refine ⟨?_, ?_⟩
  · rw [z1, n1, inb_iff, t1i]; omega  -- b2
  intro κ_3 hκ_3
  intro W4
  have z3 : zR κ_3 = zR κ := by rw [hκ_3]; exact z1
  have n3 : zN κ_3 = zN κ := by rw [hκ_3]; exact n1
  have F3 : zF (nuF a0) κ κ_3 := by
    have f1 : zF (nuF a0) κ κ_1 := by rw [hκ_1]; exact zF_ua (by rw [ow]; exact ⟨rfl, Or.inl rfl⟩)
    have o1 : zO κ_1 = zO κ := by rw [hκ_1]; rfl
    refine f1.tr ?_
    rw [hκ_3]
    exact zF_ua (by rw [z1, o1, ow]; exact ⟨rfl, Or.inl rfl⟩)
  have L0 : zA κ_3 (zR κ nuLimbs a0) 0 = (a1 &&& 2147483647).toInt32 := by
    rw [hκ_3, z1]
    refine (congrFun (if_pos rfl) 0).trans ?_
    show upd (zA κ_1 (zR κ nuLimbs a0)) 1 _ 0 = _
    have e : zA κ_1 (zR κ nuLimbs a0) 0 = (a1 &&& 2147483647).toInt32 := by rw [hκ_1]; exact (congrFun (if_pos rfl) 0).trans (if_pos rfl)
    rw [← e]
    exact if_neg (by decide)
  have L1 : zA κ_3 (zR κ nuLimbs a0) 1 = ((a1.toUInt64 >>> ((31 : Int32).toInt64.toUInt64 &&& Int64.toUInt64 63)).toInt64).toInt32 := by
    rw [hκ_3, z1]
    exact (congrFun (if_pos rfl) 1).trans (if_pos rfl)
  have g0 : (zA κ_3 (zR κ nuLimbs a0) 0).toInt = a1.toInt % 2147483648 := by rw [L0]; exact d0
  have g1 : (zA κ_3 (zR κ nuLimbs a0) 1).toInt = a1.toInt / 2147483648 := by rw [L1]; exact d2
  have k0 := cnk (x := zA κ_3 (zR κ nuLimbs a0) 0) (by omega)
  have k1 := cnk (x := zA κ_3 (zR κ nuLimbs a0) 1) (by omega)
  have gen : ∀ (σ : zS) (m : Int32), σ = ui κ_3 nuLength a0 m → (0 ≤ m.toInt ∧ m.toInt ≤ 2) → (0 < m.toInt → 0 < (zA κ_3 (zR κ nuLimbs a0) (m.toInt - 1).toNat).toInt) → uV (zA κ_3 (zR κ nuLimbs a0)) m.toNatClampNeg = a1.toInt.toNat → zF (nuF a0) κ σ ∧ (zR σ = zR κ ∧ zN σ = zN κ) ∧ nuI σ a0 c9 ∧ nuN σ a0 = a1.toInt.toNat := fun σ m e m1 m2 m3 => by
    have rs : zR σ = zR κ := by rw [e]; exact z3
    have nsq : zN σ = zN κ := by rw [e]; exact n3
    have as : zA σ = zA κ_3 := by rw [e]; rfl
    have is : zI σ nuLength a0 = m := by rw [e]; exact if_pos ⟨rfl, rfl⟩
    refine ⟨F3.tr (by rw [e]; exact zF_ui ⟨rfl, Or.inr rfl⟩), ⟨rs, nsq⟩, ⟨⟨?_, ?_, fun i hi => ?_⟩, ?_⟩, ?_⟩
    · rw [rs, nsq, is]; omega
    · rw [rs, nsq]; omega
    · rw [rs, as]
      rw [is] at hi
      have y : i = 0 ∨ i = 1 := by omega
      rcases y with y | y
      · rw [y]; omega
      · rw [y]; omega
    · unfold nuZ
      rw [rs, as, is]
      exact m2
    · unfold nuN
      rw [rs, as, is]
      exact m3
  refine ⟨?_, ?_⟩
  · rw [z3, n3, inb_iff, t1i]; omega  -- b3
  refine ⟨fun c5 => ?_, fun c5 => ?_⟩
  · skip
    refine ⟨?_, ?_⟩
    · rw [z3, n3, inb_iff, t0i]; omega  -- b4
    refine ⟨fun c6 => ?_, fun c6 => ?_⟩
    · skip
      intro κ_7 hκ_7
      intro W8
      refine h _ ?_
      · rw [z3] at c5 c6
        have e1 : (zA κ_3 (zR κ nuLimbs a0) 1).toInt = 0 := congrArg Int32.toInt c5
        have e0 : (zA κ_3 (zR κ nuLimbs a0) 0).toInt = 0 := congrArg Int32.toInt c6
        refine gen _ _ hκ_7 (by decide) (fun y => absurd y (by decide)) ?_
        show 0 = _
        omega
    · skip
      intro κ_9 hκ_9
      intro W10
      refine h _ ?_
      · rw [z3] at c5 c6
        have e1 : (zA κ_3 (zR κ nuLimbs a0) 1).toInt = 0 := congrArg Int32.toInt c5
        have e0 : (zA κ_3 (zR κ nuLimbs a0) 0).toInt ≠ 0 := fun y => c6 (Int32.toInt_inj.mp y)
        refine gen _ _ hκ_9 (by decide) (fun _ => ?_) ?_
        · show 0 < (zA κ_3 (zR κ nuLimbs a0) 0).toInt
          omega
        · show uV _ 1 = _
          rw [uV_1]
          omega
  · skip
    intro κ_11 hκ_11
    intro W12
    refine h _ ?_
    · rw [z3] at c5
      have e1 : (zA κ_3 (zR κ nuLimbs a0) 1).toInt ≠ 0 := fun y => c5 (Int32.toInt_inj.mp y)
      refine gen _ _ hκ_11 (by decide) (fun _ => ?_) ?_
      · show 0 < (zA κ_3 (zR κ nuLimbs a0) 1).toInt
        omega
      · show uV _ 2 = _
        rw [uV_2]
        omega

theorem Nu_small_c {C : zC} {n0 : Nat} {a0 : Nat} {κ : zS} {Q : Int64 → zS → Prop} (W : zW C n0 κ) (Ta0 : zT κ a0 = 8) (c9 : Nat) (hp : nuB κ a0 c9) (h : ∀ (v : Int64), ((0 ≤ v.toInt ∧ v.toInt < 4611686018427387904) ∧ (nuK κ a0 ≤ 2 → v.toInt = nuN κ a0)) → Q v κ) : zRun C 0 mNu_small [.ref a0] κ (oJ Q noX) := by
  refine Nu_small_run W Ta0 ?_
  replace W := W.lo (Nat.le_trans W.1.2.1 W.1.2.2) (Nat.le_refl (zn κ))
  unfold w_Nu_small_0
  have k := nuK_i hp
  have lz := hp.1
  have l2 := hp.2.1
  refine ⟨fun c1 => ?_, fun c1 => ?_⟩
  · skip
    refine ⟨fun c2 => ?_, fun c2 => ?_⟩
    · skip
      refine ⟨?_, ?_⟩
      · rw [inb_iff, t1i]; omega  -- b1
      refine ⟨?_, ?_⟩
      · rw [inb_iff, t0i]; omega  -- b2
      refine h _ ?_
      · have n0z : (zI κ nuLength a0).toInt ≠ 0 := fun y => c1 (Int32.toInt_inj.mp y)
        have n1z : (zI κ nuLength a0).toInt ≠ 1 := fun y => c2 (Int32.toInt_inj.mp y)
        have l0 := hp.2.2 0 (by omega)
        have l1 := hp.2.2 1 (by omega)
        have h0 := ihi (zA κ (zR κ nuLimbs a0) 0)
        have h1 := ihi (zA κ (zR κ nuLimbs a0) 1)
        have e1 : (zA κ (zR κ nuLimbs a0) 1).toInt64.toInt = (zA κ (zR κ nuLimbs a0) 1).toInt := Int32.toInt_toInt64 _
        have t := j_top (a := (zA κ (zR κ nuLimbs a0) 1).toInt64) (y := zA κ (zR κ nuLimbs a0) 0) (by omega) (by omega) l0
        rw [e1] at t
        refine ⟨?_, fun z => ?_⟩
        · show 0 ≤ (((zA κ (zR κ nuLimbs a0) 1).toInt64 <<< ((31 : Int32).toInt64 &&& 63)) ||| (zA κ (zR κ nuLimbs a0) 0).toInt64).toInt ∧ (((zA κ (zR κ nuLimbs a0) 1).toInt64 <<< ((31 : Int32).toInt64 &&& 63)) ||| (zA κ (zR κ nuLimbs a0) 0).toInt64).toInt < _
          rw [t]; omega
        · show (((zA κ (zR κ nuLimbs a0) 1).toInt64 <<< ((31 : Int32).toInt64 &&& 63)) ||| (zA κ (zR κ nuLimbs a0) 0).toInt64).toInt = _
          have e2 : (zI κ nuLength a0).toNatClampNeg = 2 := by
            have : nuK κ a0 = (zI κ nuLength a0).toNatClampNeg := rfl
            omega
          have k0 := cnk l0
          have k1 := cnk l1
          unfold nuN
          rw [t, e2, uV_2]
          omega
    · skip
      refine ⟨?_, ?_⟩
      · rw [inb_iff, t0i]; omega  -- b4
      refine h _ ?_
      · have l0 := hp.2.2 0 (by rw [c2]; decide)
        have h0 := ihi (zA κ (zR κ nuLimbs a0) 0)
        have k0 := cnk l0
        have e1 : (zA κ (zR κ nuLimbs a0) 0).toInt64.toInt = (zA κ (zR κ nuLimbs a0) 0).toInt := Int32.toInt_toInt64 _
        refine ⟨?_, fun _ => ?_⟩
        · show 0 ≤ (zA κ (zR κ nuLimbs a0) 0).toInt64.toInt ∧ (zA κ (zR κ nuLimbs a0) 0).toInt64.toInt < _
          omega
        · show (zA κ (zR κ nuLimbs a0) 0).toInt64.toInt = _
          unfold nuN
          rw [c2, e1]
          show _ = ((uV (zA κ (zR κ nuLimbs a0)) 1 : Nat) : Int)
          rw [uV_1]
          omega
  · skip
    refine h _ ?_
    · refine ⟨by decide, fun _ => ?_⟩
      unfold nuN
      rw [c1]
      rfl

theorem nu_ne {C : zC} {n0 x y : Nat} {κ : zS} (W : zW C n0 κ) (Tx : zT κ x = 8) (Ty : zT κ y = 8) (h : x ≠ y) : zR κ nuLimbs x ≠ zR κ nuLimbs y := fun e => by
  have a := W.o (show zr nuLimbs = some 20 by decide +kernel) (by decide) Tx
  have b := W.o (show zr nuLimbs = some 20 by decide +kernel) (by decide) Ty
  rw [e, b] at a
  exact h (congrArg Prod.snd a).symm
theorem Nu_copy_c {C : zC} {n0 : Nat} {a0 : Nat} {a1 : Nat} {κ : zS} {Q : zS → Prop} (W : zW C n0 κ) (Ta0 : zT κ a0 = 8) (Ta1 : zT κ a1 = 8) (c9 d9 : Nat) (hp : (2 ≤ (zN κ (zR κ nuLimbs a0)) ∧ (zN κ (zR κ nuLimbs a0)) ≤ c9) ∧ nuB κ a1 d9 ∧ a0 ≠ a1 ∧ nuK κ a1 + nuK κ a1 / 2 + 1 ≤ c9 ∧ c9 ≤ 30000000) (h : ∀ (κ' : zS), (zF (nuF a0) κ κ' ∧ nuB κ' a0 c9 ∧ nuN κ' a0 = nuN κ a1 ∧ nuK κ' a0 = nuK κ a1 ∧ (nuZ κ a1 → nuZ κ' a0)) → Q κ') : zRun C 1 mNu_copy [.ref a0, .ref a1] κ (oV Q noX) := by
  refine Nu_copy_run W Ta0 Ta1 ?_
  replace W := W.lo (Nat.le_trans W.1.2.1 W.1.2.2) (Nat.le_refl (zn κ))
  unfold w_Nu_copy_0
  obtain ⟨p1, p2, p3, p4, p5⟩ := hp
  have k := nuK_i p2
  have kd : nuK κ a1 = (zI κ nuLength a1).toNatClampNeg := rfl
  have lb := p2.1
  have nF : ∀ f, ¬ nuF a0 f a1 := fun f z => p3 z.1.symm
  have hj31 : ∀ (l0 : Nat) (l1 : Nat) (τ : zS), zW C (zn κ) τ → zT τ l0 = 8 → zT τ l1 = 8 → (a0 = l0 ∧ a1 = l1 ∧ zF (nuF a0) κ τ ∧ zI τ = zI κ ∧ (2 ≤ (zN τ (zR τ nuLimbs a0)) ∧ (zN τ (zR τ nuLimbs a0)) ≤ c9) ∧ nuK κ a1 ≤ (zN τ (zR τ nuLimbs a0))) → w_Nu_copy_31 C (zn κ) Q  l0 l1 τ := by
    rintro _ _ τ31 W31 T31_0 T31_1 ⟨rfl, rfl, j31⟩
    unfold w_Nu_copy_31
    obtain ⟨Z, I, l, g⟩ := j31
    have u := nu_z W Ta1 Z (nF nuLimbs) (nF nuLength)
    have ne := nu_ne W31 T31_0 T31_1 p3
    refine ⟨?_, ?_⟩
    · rw [I, u.2.1]
      refine ⟨by decide, by decide, by rw [lei, t0i]; omega, ?_, ?_⟩
      · show 0 + _ ≤ _
        rw [u.2.2.2]; omega
      · show 0 + _ ≤ _
        omega
    intro κ_1 hκ_1
    intro W2
    intro κ_3 hκ_3
    intro W4
    refine h _ ?_
    · have ow := W31.o (show zr nuLimbs = some 20 by decide +kernel) (by decide) T31_0
      have Z1 : zF (nuF a0) τ31 κ_1 := by rw [hκ_1]; exact zF_uc (by rw [ow]; exact ⟨rfl, Or.inl rfl⟩)
      have Z3 : zF (nuF a0) κ_1 κ_3 := by rw [hκ_3]; exact zF_ui ⟨rfl, Or.inr rfl⟩
      have R3 : zR κ_3 = zR τ31 := by rw [hκ_3, hκ_1]; rfl
      have N3 : zN κ_3 = zN τ31 := by rw [hκ_3, hκ_1]; rfl
      have I3 : zI κ_3 nuLength a0 = zI κ nuLength a1 := by
        rw [hκ_3]
        refine (if_pos ⟨rfl, rfl⟩).trans ?_
        rw [hκ_1, ← I]
        rfl
      rw [I, u.2.1] at hκ_1
      have A3 : ∀ i, i < (zI κ nuLength a1).toNatClampNeg → zA κ_3 (zR τ31 nuLimbs a0) i = zA κ (zR κ nuLimbs a1) i := fun i hi => by
        have e : zA κ_3 = zA κ_1 := by rw [hκ_3]; rfl
        rw [e, hκ_1]
        refine (congrFun (if_pos rfl) i).trans ?_
        show (if 0 ≤ i ∧ i < 0 + (zI κ nuLength a1).toNatClampNeg then zA τ31 (zR κ nuLimbs a1) (0 + (i - 0)) else _) = _
        rw [if_pos ⟨Nat.zero_le _, by omega⟩, u.2.2.1]
        congr 1
        omega
      refine ⟨(Z.tr Z1).tr Z3, ⟨?_, ?_, fun i hi => ?_⟩, ?_, ?_, fun z => ?_⟩
      · rw [R3, N3, I3]; omega
      · rw [R3, N3]; exact l
      · rw [I3] at hi
        rw [R3, A3 i (by omega)]
        exact p2.2.2 i hi
      · unfold nuN
        rw [I3, R3]
        exact uV_e A3
      · unfold nuK
        rw [I3]
      · intro y
        rw [I3] at y ⊢
        rw [R3, A3 _ (by omega)]
        exact z y
  refine ⟨fun c5 => ?_, fun c5 => ?_⟩
  · skip
    refine hj31 _ _ _ W ?_ ?_ ?_
    · exact Ta0  -- t3
    · exact Ta1  -- t4
    · have oN := W.n (ty_nuLimbs W Ta0)
      rw [lei, ofn_i oN] at c5
      exact ⟨rfl, rfl, zF.rf, rfl, p1, by omega⟩
  · skip
    refine ⟨?_, ?_⟩
    · decide  -- b6
    have oN := W.n (ty_nuLimbs W Ta0)
    rw [lei, ofn_i oN] at c5
    have hf := hf_i (x := zI κ nuLength a1) lb.1 (by omega)
    have kx := cnk (x := zI κ nuLength a1 + zI κ nuLength a1 / 2 + 1) (by omega)
    refine ⟨?_, ?_⟩
    · exact ⟨by rw [lei, t0i]; omega, by omega⟩  -- b7
    intro κ_6 hκ_6
    intro W7
    refine ⟨?_, ?_⟩
    · rw [hκ_6]; exact if_pos rfl  -- b8
    intro κ_8 hκ_8
    intro W9
    have k1 := nu_c (o := zN κ (zR κ nuLimbs a0)) (m := nuK κ a1) (n := (zI κ nuLength a1 + zI κ nuLength a1 / 2 + 1).toNatClampNeg) (by omega) (by omega)
    refine hj31 _ _ _ W9 ?_ ?_ ?_
    · have k1 := nu_c (o := zN κ (zR κ nuLimbs a0)) (m := nuK κ a1) (n := (zI κ nuLength a1 + zI κ nuLength a1 / 2 + 1).toNatClampNeg) (by omega) (by omega)
      exact (we_gr W (show zr nuLimbs = some 20 by decide +kernel) (by decide) Ta0 hκ_6 hκ_8 k1.1 k1.2).1.t Ta0 (by decide)
    · have k1 := nu_c (o := zN κ (zR κ nuLimbs a0)) (m := nuK κ a1) (n := (zI κ nuLength a1 + zI κ nuLength a1 / 2 + 1).toNatClampNeg) (by omega) (by omega)
      exact (we_gr W (show zr nuLimbs = some 20 by decide +kernel) (by decide) Ta0 hκ_6 hκ_8 k1.1 k1.2).1.t Ta1 (by decide)
    · have k1 := nu_c (o := zN κ (zR κ nuLimbs a0)) (m := nuK κ a1) (n := (zI κ nuLength a1 + zI κ nuLength a1 / 2 + 1).toNatClampNeg) (by omega) (by omega)
      obtain ⟨F1, u1, u2, u3, u4, u5⟩ := we_gr W (show zr nuLimbs = some 20 by decide +kernel) (by decide) Ta0 hκ_6 hκ_8 k1.1 k1.2
      refine ⟨rfl, rfl, F1.mono (fun f x z => ⟨z.2, Or.inl z.1⟩), u1, ?_, ?_⟩
      · rw [u3, u4]; omega
      · rw [u3, u4]; omega

theorem Nu_compare_c {C : zC} {n0 : Nat} {a0 : Nat} {a1 : Nat} {κ : zS} {Q : Int32 → zS → Prop} (W : zW C n0 κ) (Ta0 : zT κ a0 = 8) (Ta1 : zT κ a1 = 8) (c9 d9 : Nat) (hp : nuI κ a0 c9 ∧ nuI κ a1 d9) (h : ∀ (v : Int32), ((v.toInt = -1 ∧ nuN κ a0 < nuN κ a1) ∨ (v.toInt = 0 ∧ nuN κ a0 = nuN κ a1) ∨ (v.toInt = 1 ∧ nuN κ a1 < nuN κ a0)) → Q v κ) : zRun C 0 mNu_compare [.ref a0, .ref a1] κ (oI Q noX) := by
  refine Nu_compare_run W Ta0 Ta1 ?_
  replace W := W.lo (Nat.le_trans W.1.2.1 W.1.2.2) (Nat.le_refl (zn κ))
  unfold w_Nu_compare_0
  obtain ⟨h0, h1⟩ := hp
  have k0 := nuK_i h0.1
  have k1 := nuK_i h1.1
  have b0 := h0.1.1
  have b1 := h1.1.1
  have i0 := ihi (zI κ nuLength a0)
  refine ⟨fun c1 => ?_, fun c1 => ?_⟩
  · skip
    intro x2 hx2
    unfold w_Nu_compare_35
    refine ⟨fun n l0 l1 l2 τ => n = (l2.toInt + 1).toNat ∧ (κ = τ ∧ a0 = l0 ∧ a1 = l1 ∧ (-1 ≤ l2.toInt ∧ l2.toInt < (zI κ nuLength a0).toInt) ∧ ∀ j : Nat, l2.toInt < (j : Int) → (j : Int) < (zI κ nuLength a0).toInt → zA κ (zR κ nuLimbs a0) j = zA κ (zR κ nuLimbs a1) j), ⟨_, rfl, ?_⟩, ?_⟩
    · have e : x2.toInt = (zI κ nuLength a0).toInt - 1 := by rw [hx2, sub_i (by rw [t1i]; omega) (by rw [t1i]; omega), t1i]
      exact ⟨rfl, rfl, rfl, by omega, fun j h2 h3 => by omega⟩
    rintro n35 _ _ x35_2 _ W35 T35_0 T35_1 ⟨hn35, rfl, rfl, rfl, i35⟩
    obtain ⟨l35, e35⟩ := i35
    have cl : (zI κ nuLength a0).toInt = (zI κ nuLength a1).toInt := congrArg Int32.toInt c1
    refine ⟨fun c3 => ?_, fun c3 => ?_⟩
    · skip
      refine h _ ?_
      · rw [lti, t0i] at c3
        refine Or.inr (Or.inl ⟨rfl, ?_⟩)
        unfold nuN
        rw [← c1]
        exact uV_e (fun i hi => e35 i (by omega) (by
          have : nuK κ a0 = (zI κ nuLength a0).toNatClampNeg := rfl
          omega))
    · skip
      rw [lti, t0i] at c3
      have kx := cnk (x := x35_2) (by omega)
      have p0 := h0.1.2.2 x35_2.toNatClampNeg (by omega)
      have p1 := h1.1.2.2 x35_2.toNatClampNeg (by omega)
      have q0 := cnk p0
      have q1 := cnk p1
      refine ⟨?_, ?_⟩
      · rw [inb_iff]; omega  -- b3
      refine ⟨?_, ?_⟩
      · rw [inb_iff]; omega  -- b4
      refine ⟨fun c4 => ?_, fun c4 => ?_⟩
      · skip
        intro x5 hx5
        refine ⟨_, ?_, rfl, ?_⟩
        · have e : x5.toInt = x35_2.toInt - 1 := by rw [hx5, add_i (by rw [tmi]; omega) (by rw [tmi]; omega), tmi]; omega
          rw [hn35]; omega
        · have e : x5.toInt = x35_2.toInt - 1 := by rw [hx5, add_i (by rw [tmi]; omega) (by rw [tmi]; omega), tmi]; omega
          refine ⟨rfl, rfl, rfl, by omega, fun j h2 h3 => ?_⟩
          by_cases z : j = x35_2.toNatClampNeg
          · rw [z]; exact c4
          · exact e35 j (by omega) h3
      · skip
        refine ⟨?_, ?_⟩
        · rw [inb_iff]; omega  -- b7
        refine ⟨?_, ?_⟩
        · rw [inb_iff]; omega  -- b8
        have ne9 : (zA κ (zR κ nuLimbs a0) x35_2.toNatClampNeg).toInt ≠ (zA κ (zR κ nuLimbs a1) x35_2.toNatClampNeg).toInt := fun y => c4 (Int32.toInt_inj.mp y)
        have kq : nuK κ a0 = (zI κ nuLength a0).toNatClampNeg := rfl
        refine ⟨fun c6 => ?_, fun c6 => ?_⟩
        · skip
          refine h _ ?_
          · rw [lei] at c6
            refine Or.inr (Or.inr ⟨rfl, ?_⟩)
            unfold nuN
            rw [← c1]
            exact uV_cmp (i := x35_2.toNatClampNeg) (by omega) (by omega) (fun j h2 h3 => (e35 j (by omega) (by omega)).symm)
        · skip
          refine h _ ?_
          · rw [lei] at c6
            refine Or.inl ⟨rfl, ?_⟩
            unfold nuN
            rw [← c1]
            exact uV_cmp (i := x35_2.toNatClampNeg) (by omega) (by omega) (fun j h2 h3 => e35 j (by omega) (by omega))
  · skip
    have ne9 : (zI κ nuLength a0).toInt ≠ (zI κ nuLength a1).toInt := fun y => c1 (Int32.toInt_inj.mp y)
    refine ⟨fun c7 => ?_, fun c7 => ?_⟩
    · skip
      refine h _ ?_
      · rw [lei] at c7
        refine Or.inr (Or.inr ⟨rfl, ?_⟩)
        have g := nuN_ge h0 (by omega)
        have l := nuN_lt (κ := κ) (x := a1)
        exact Nat.lt_of_lt_of_le (Nat.lt_of_lt_of_le l (Nat.pow_le_pow_right (by decide) (by omega))) g
    · skip
      refine h _ ?_
      · rw [lei] at c7
        refine Or.inl ⟨rfl, ?_⟩
        have g := nuN_ge h1 (by omega)
        have l := nuN_lt (κ := κ) (x := a0)
        exact Nat.lt_of_lt_of_le (Nat.lt_of_lt_of_le l (Nat.pow_le_pow_right (by decide) (by omega))) g
