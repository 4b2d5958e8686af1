section
set_option maxHeartbeats 1600000
/-! the class: Num: bits, values; trim, widen, put, small, copy, isOne, compare -/
theorem l63 {x : Int64} (h : 0 ≤ x.toInt) : x.toInt = (x.toBitVec.toNat : Int) := by
  have c : x.toInt = if 2 * x.toBitVec.toNat < 2 ^ 64 then (x.toBitVec.toNat : Int) else (x.toBitVec.toNat : Int) - (2 ^ 64 : Nat) := BitVec.toInt_eq_toNat_cond x.toBitVec
  have l : x.toBitVec.toNat < 2 ^ 64 := x.toBitVec.isLt
  split at c <;> omega
theorem w31 {x : Int32} (h : 0 ≤ x.toInt) : x.toBitVec.toNat = x.toNatClampNeg := by
  have c : x.toInt = if 2 * x.toBitVec.toNat < 2 ^ 32 then (x.toBitVec.toNat : Int) else (x.toBitVec.toNat : Int) - (2 ^ 32 : Nat) := BitVec.toInt_eq_toNat_cond x.toBitVec
  have l : x.toBitVec.toNat < 2 ^ 32 := x.toBitVec.isLt
  have k := cnk h
  split at c <;> omega
/-- the lowest 31 bits -/
theorem j_and {x : Int64} : (x &&& 2147483647).toInt = x.toInt % 2147483648 ∧ ((x &&& 2147483647).toInt32).toInt = x.toInt % 2147483648 := by
  have e : (x &&& 2147483647).toBitVec.toNat = x.toBitVec.toNat % 2147483648 := by
    rw [Int64.toBitVec_and, BitVec.toNat_and, show (2147483647 : Int64).toBitVec.toNat = 2 ^ 31 - 1 from rfl, Nat.and_two_pow_sub_one_eq_mod]
  have t : (x &&& 2147483647).toInt = ((x &&& 2147483647).toBitVec.toNat : Int) := BitVec.toInt_eq_toNat_of_lt (by rw [e]; omega)
  have c : x.toInt = if 2 * x.toBitVec.toNat < 2 ^ 64 then (x.toBitVec.toNat : Int) else (x.toBitVec.toNat : Int) - (2 ^ 64 : Nat) := BitVec.toInt_eq_toNat_cond x.toBitVec
  have r : (x &&& 2147483647).toInt = x.toInt % 2147483648 := by
    rw [t, e]
    split at c <;> omega
  refine ⟨r, ?_⟩
  rw [Int64.toInt_toInt32, r]
  exact Int.bmod_eq_of_le (by omega) (by omega)
/-- the bits above -/
theorem j_shr {x : Int64} (h : 0 ≤ x.toInt) : ((x.toUInt64 >>> ((31 : Int32).toInt64.toUInt64 &&& Int64.toUInt64 63)).toInt64).toInt = x.toInt / 2147483648 := by
  have e : ((x.toUInt64 >>> ((31 : Int32).toInt64.toUInt64 &&& Int64.toUInt64 63)).toInt64).toBitVec.toNat = x.toBitVec.toNat / 2147483648 := by
    rw [UInt64.toBitVec_toInt64, UInt64.toBitVec_shiftRight, Int64.toBitVec_toUInt64, BitVec.ushiftRight_eq', BitVec.toNat_ushiftRight, Nat.shiftRight_eq_div_pow]
    rfl
  have b := l63 h
  have lt : x.toBitVec.toNat < 2 ^ 64 := x.toBitVec.isLt
  have t : ((x.toUInt64 >>> ((31 : Int32).toInt64.toUInt64 &&& Int64.toUInt64 63)).toInt64).toInt = (((x.toUInt64 >>> ((31 : Int32).toInt64.toUInt64 &&& Int64.toUInt64 63)).toInt64).toBitVec.toNat : Int) := BitVec.toInt_eq_toNat_of_lt (by rw [e]; omega)
  rw [t, e, b]
  omega
theorem j_i32 {x : Int64} (h0 : 0 ≤ x.toInt) (h1 : x.toInt < 2147483648) : (x.toInt32).toInt = x.toInt := by
  rw [Int64.toInt_toInt32]
  exact Int.bmod_eq_of_le (by omega) (by omega)
theorem x64n {x : Int32} (h : 0 ≤ x.toInt) : (x.toInt64).toBitVec.toNat = x.toNatClampNeg := by
  have k := cnk h
  have e : (x.toInt64).toInt = x.toInt := Int32.toInt_toInt64 x
  have b := l63 (x := x.toInt64) (by omega)
  omega
/-- a long number, 31 bits higher, and a limb -/
theorem j_top {a : Int64} {y : Int32} (ha : 0 ≤ a.toInt) (h1 : a.toInt < 4294967296) (hy : 0 ≤ y.toInt) : ((a <<< ((31 : Int32).toInt64 &&& 63)) ||| y.toInt64).toInt = a.toInt * 2147483648 + y.toInt := by
  have b := l63 ha
  have k := cnk hy
  have ky := ihi y
  have e : ((a <<< ((31 : Int32).toInt64 &&& 63)) ||| y.toInt64).toBitVec.toNat = a.toBitVec.toNat * 2147483648 + y.toNatClampNeg := by
    rw [Int64.toBitVec_or, BitVec.toNat_or, x64n hy, Int64.toBitVec_shiftLeft, BitVec.shiftLeft_eq', show (((31 : Int32).toInt64 &&& 63).toBitVec.smod 64).toNat = 31 from rfl, BitVec.toNat_shiftLeft, Nat.mod_eq_of_lt (by rw [Nat.shiftLeft_eq]; omega), ← Nat.shiftLeft_add_eq_or_of_lt (by omega), Nat.shiftLeft_eq]
  have t : ((a <<< ((31 : Int32).toInt64 &&& 63)) ||| y.toInt64).toInt = (((a <<< ((31 : Int32).toInt64 &&& 63)) ||| y.toInt64).toBitVec.toNat : Int) := BitVec.toInt_eq_toNat_of_lt (by rw [e]; omega)
  rw [t, e]
  omega
/-- what limbs are worth -/
def uV (f : Nat → Int32) : Nat → Nat
  | 0 => 0
  | n + 1 => uV f n + (f n).toNatClampNeg * 2147483648 ^ n
theorem uV_e {f g : Nat → Int32} : ∀ {n : Nat}, (∀ i, i < n → f i = g i) → uV f n = uV g n
  | 0, _ => rfl
  | n + 1, h => by
    show uV f n + (f n).toNatClampNeg * 2147483648 ^ n = uV g n + (g n).toNatClampNeg * 2147483648 ^ n
    rw [uV_e (fun i hi => h i (Nat.lt_succ_of_lt hi)), h n (Nat.lt_succ_self n)]
theorem lim31 (x : Int32) : x.toNatClampNeg < 2147483648 := by
  have h := ihi x
  by_cases z : 0 ≤ x.toInt
  · have := cnk z
    omega
  · have e : x.toNatClampNeg = x.toInt.toNat := rfl
    omega
theorem uV_lt {f : Nat → Int32} : ∀ {n : Nat}, uV f n < 2147483648 ^ n
  | 0 => show (0 : Nat) < 1 by decide
  | n + 1 => by
    have a := uV_lt (f := f) (n := n)
    have b := lim31 (f n)
    have p : 2147483648 ^ (n + 1) = 2147483648 * 2147483648 ^ n := by rw [Nat.pow_succ, Nat.mul_comm]
    have m := Nat.mul_le_mul_right (2147483648 ^ n) (Nat.le_of_lt_succ (Nat.succ_lt_succ b) : (f n).toNatClampNeg + 1 ≤ 2147483648)
    rw [Nat.add_mul] at m
    show uV f n + (f n).toNatClampNeg * 2147483648 ^ n < _
    omega
theorem uV_ge {f : Nat → Int32} {n : Nat} (h : 0 < (f n).toNatClampNeg) : 2147483648 ^ n ≤ uV f (n + 1) := by
  have m := Nat.mul_le_mul_right (2147483648 ^ n) h
  show _ ≤ uV f n + (f n).toNatClampNeg * 2147483648 ^ n
  omega
theorem uV_m {f : Nat → Int32} {m : Nat} : ∀ {n : Nat}, n ≤ m → uV f n ≤ uV f m := by
  induction m with
  | zero =>
    intro n h
    have : n = 0 := by omega
    rw [this]; exact Nat.le_refl _
  | succ m ih =>
    intro n h
    by_cases z : n = m + 1
    · rw [z]; exact Nat.le_refl _
    · have := ih (n := n) (by omega)
      show _ ≤ uV f m + _
      omega
def nuB (κ : zS) (x c : Nat) : Prop := (0 ≤ (zI κ nuLength x).toInt ∧ (zI κ nuLength x).toInt ≤ (zN κ (zR κ nuLimbs x))) ∧ (2 ≤ (zN κ (zR κ nuLimbs x)) ∧ (zN κ (zR κ nuLimbs x)) ≤ c) ∧ ∀ i : Nat, (i : Int) < (zI κ nuLength x).toInt → 0 ≤ (zA κ (zR κ nuLimbs x) i).toInt
def nuZ (κ : zS) (x : Nat) : Prop := 0 < (zI κ nuLength x).toInt → 0 < (zA κ (zR κ nuLimbs x) ((zI κ nuLength x).toInt - 1).toNat).toInt
def nuI (κ : zS) (x c : Nat) : Prop := nuB κ x c ∧ nuZ κ x
def nuN (κ : zS) (x : Nat) : Nat := uV (zA κ (zR κ nuLimbs x)) (zI κ nuLength x).toNatClampNeg
def nuK (κ : zS) (x : Nat) : Nat := (zI κ nuLength x).toNatClampNeg
abbrev nuF (x : Nat) : Nat → Nat → Prop := fun f b => b = x ∧ (f = nuLimbs ∨ f = nuLength)
theorem nuK_i {κ : zS} {x c : Nat} (h : nuB κ x c) : (nuK κ x : Int) = (zI κ nuLength x).toInt := cnk h.1.1
theorem nuN_lt {κ : zS} {x : Nat} : nuN κ x < 2147483648 ^ nuK κ x := uV_lt
theorem nuN_ge {κ : zS} {x c : Nat} (h : nuI κ x c) (k : 0 < nuK κ x) : 2147483648 ^ (nuK κ x - 1) ≤ nuN κ x := by
  have i := nuK_i h.1
  have z := h.2 (by omega)
  have e : ((zI κ nuLength x).toInt - 1).toNat = nuK κ x - 1 := by omega
  rw [e] at z
  have kz := cnk (x := zA κ (zR κ nuLimbs x) (nuK κ x - 1)) (by omega)
  have q := uV_ge (f := zA κ (zR κ nuLimbs x)) (n := nuK κ x - 1) (by omega)
  have e2 : nuK κ x - 1 + 1 = nuK κ x := by omega
  rw [e2] at q
  exact q
theorem p31_lt {a b : Nat} (h : 2147483648 ^ a < 2147483648 ^ b) : a < b := (Nat.pow_lt_pow_iff_right (by decide)).mp h
/-- lengths follow from values -/
theorem nuK_lt {κ : zS} {x c k : Nat} (h : nuI κ x c) (l : nuN κ x < 2147483648 ^ k) : nuK κ x ≤ k := by
  by_cases z : nuK κ x = 0
  · omega
  · have g := nuN_ge h (by omega)
    have := p31_lt (Nat.lt_of_le_of_lt g l)
    omega
theorem nuK_le {κ τ : zS} {x y c d : Nat} (h : nuI κ x c) (l : nuN κ x ≤ nuN τ y) : nuK κ x ≤ nuK τ y := nuK_lt h (Nat.lt_of_le_of_lt l nuN_lt)
theorem nuK_z {κ : zS} {x c : Nat} (h : nuI κ x c) : nuK κ x = 0 ↔ nuN κ x = 0 := by
  refine ⟨fun z => ?_, fun z => ?_⟩
  · have := nuN_lt (κ := κ) (x := x)
    rw [z] at this
    omega
  · have := nuK_lt (k := 0) h (by rw [z]; decide)
    omega
/-- a number that isn't touched -/
theorem nu_z {C : zC} {n0 y : Nat} {F : Nat → Nat → Prop} {κ τ : zS} (W : zW C n0 κ) (T : zT κ y = 8) (Z : zF F κ τ) (h1 : ¬ F nuLimbs y) (h2 : ¬ F nuLength y) : zI τ nuLength y = zI κ nuLength y ∧ zR τ nuLimbs y = zR κ nuLimbs y ∧ zA τ (zR κ nuLimbs y) = zA κ (zR κ nuLimbs y) ∧ zN τ (zR κ nuLimbs y) = zN κ (zR κ nuLimbs y) := by
  have q := (Z.row W (show zr nuLimbs = some 20 by decide +kernel) (by decide) T h1).1
  rw [Z.r h1] at q
  exact ⟨Z.i h2, Z.r h1, q, Z.l (ty_nuLimbs W T)⟩
theorem nuB_z {C : zC} {n0 y c : Nat} {F : Nat → Nat → Prop} {κ τ : zS} (W : zW C n0 κ) (T : zT κ y = 8) (Z : zF F κ τ) (h1 : ¬ F nuLimbs y) (h2 : ¬ F nuLength y) : (nuB κ y c → nuB τ y c) ∧ (nuI κ y c → nuI τ y c) ∧ nuN τ y = nuN κ y ∧ nuK τ y = nuK κ y := by
  obtain ⟨a, b, d, e⟩ := nu_z W T Z h1 h2
  refine ⟨fun h => ?_, fun h => ?_, ?_, ?_⟩
  · unfold nuB
    rw [a, b, d, e]; exact h
  · unfold nuI nuB nuZ
    rw [a, b, d, e]; exact h
  · unfold nuN
    rw [a, b, d]
  · unfold nuK
    rw [a]
/-- what a longer row of limbs costs -/
theorem nu_c {o m n : Nat} (h : o < m) (hn : m + m / 2 + 1 ≤ n) : n + wS 800 o ≤ wS 800 n ∧ 4 + wC 800 o ≤ wC 800 n := by
  have e1 : ∀ k, wS 800 k = 3 * k + 2 := fun k => rfl
  have e2 : ∀ k, wC 800 k = 2 * k + 8 := fun k => rfl
  rw [e1, e1, e2, e2]
  omega
theorem hf_i {x : Int32} (h0 : 0 ≤ x.toInt) (h1 : x.toInt ≤ 40000000) : (x + x / 2 + 1).toInt = x.toInt + x.toInt / 2 + 1 := by
  have d := div_i (y := 2) h0 (by decide)
  rw [t2i] at d
  have e : (x + x / 2).toInt = x.toInt + x.toInt / 2 := by rw [add_i (by rw [d]; omega) (by rw [d]; omega), d]
  rw [add_i (by rw [e, t1i]; omega) (by rw [e, t1i]; omega), e, t1i]
/-- only the length was written -/
def nuT (κ τ : zS) (x : Nat) : Prop := zF (nuF x) κ τ ∧ zR τ = zR κ ∧ zA τ = zA κ ∧ zN τ = zN κ ∧ ∀ f b, ¬ (f = nuLength ∧ b = x) → zI τ f b = zI κ f b
theorem nuT.rf {κ : zS} {x : Nat} : nuT κ κ x := ⟨zF.rf, rfl, rfl, rfl, fun _ _ _ => rfl⟩
theorem nuT_i {κ τ σ : zS} {x : Nat} {v : Int32} (h : nuT κ τ x) (e : σ = ui τ nuLength x v) : nuT κ σ x ∧ zI σ nuLength x = v := ⟨⟨h.1.tr (by rw [e]; exact zF_ui ⟨rfl, Or.inr rfl⟩), by rw [e]; exact h.2.1, by rw [e]; exact h.2.2.1, by rw [e]; exact h.2.2.2.1, fun f b z => by rw [e]; exact (if_neg z).trans (h.2.2.2.2 f b z)⟩, by rw [e]; exact if_pos ⟨rfl, rfl⟩⟩
/-- a length without its leading noughts -/
def nuR (κ τ : zS) (x : Nat) : Prop := nuT κ τ x ∧ (0 ≤ (zI τ nuLength x).toInt ∧ (zI τ nuLength x).toInt ≤ (zI κ nuLength x).toInt) ∧ uV (zA κ (zR κ nuLimbs x)) (zI τ nuLength x).toNatClampNeg = nuN κ x
theorem nuR_s {κ τ σ : zS} {x : Nat} (h : nuR κ τ x) (l : 0 < (zI τ nuLength x).toInt) (z : zA τ (zR τ nuLimbs x) (zI τ nuLength x - 1).toNatClampNeg = 0) (e : σ = ui τ nuLength x (zI τ nuLength x - 1)) : nuR κ σ x ∧ (zI σ nuLength x).toInt = (zI τ nuLength x).toInt - 1 := by
  obtain ⟨a, b, c⟩ := h
  obtain ⟨g1, g2⟩ := nuT_i a e
  have d := dec_i l
  have k := cnk (x := zI τ nuLength x) (by omega)
  have k1 := cnk (x := zI τ nuLength x - 1) (by omega)
  have e9 : (zI τ nuLength x).toNatClampNeg = (zI τ nuLength x - 1).toNatClampNeg + 1 := by omega
  refine ⟨⟨g1, by rw [g2, d]; omega, ?_⟩, by rw [g2, d]⟩
  rw [g2, ← c, e9]
  show _ = uV _ (zI τ nuLength x - 1).toNatClampNeg + _
  rw [a.2.1, a.2.2.1] at z
  rw [z]
  show _ = _ + 0 * _
  omega
theorem nuR_e {κ τ : zS} {x c : Nat} (h : nuR κ τ x) (B : nuB κ x c) (z : (zI τ nuLength x).toInt ≤ 0 ∨ zA τ (zR τ nuLimbs x) (zI τ nuLength x - 1).toNatClampNeg ≠ 0) : nuI τ x c ∧ nuN τ x = nuN κ x ∧ nuK τ x ≤ nuK κ x := by
  obtain ⟨a, b, c9⟩ := h
  obtain ⟨B1, B2, B3⟩ := B
  have k := cnk (x := zI τ nuLength x) (by omega)
  have kk := cnk (x := zI κ nuLength x) (by omega)
  refine ⟨⟨⟨?_, ?_, fun i hi => ?_⟩, fun l => ?_⟩, ?_, ?_⟩
  · rw [a.2.1, a.2.2.2.1]; omega
  · rw [a.2.1, a.2.2.2.1]; exact B2
  · rw [a.2.1, a.2.2.1]; exact B3 i (by omega)
  · rcases z with z | z
    · omega
    · have d := dec_i l
      have k1 := cnk (x := zI τ nuLength x - 1) (by omega)
      have e : ((zI τ nuLength x).toInt - 1).toNat = (zI τ nuLength x - 1).toNatClampNeg := by omega
      rw [e]
      have p := B3 (zI τ nuLength x - 1).toNatClampNeg (by omega)
      rw [← a.2.1, ← a.2.2.1] at p
      have nz : (zA τ (zR τ nuLimbs x) (zI τ nuLength x - 1).toNatClampNeg).toInt ≠ 0 := fun y => z (Int32.toInt_inj.mp y)
      omega
  · unfold nuN
    rw [a.2.1, a.2.2.1]
    exact c9
  · unfold nuK
    omega
theorem Nu_trim_c {C : zC} {n0 : Nat} {a0 : Nat} {κ : zS} {Q : zS → Prop} (W : zW C n0 κ) (Ta0 : zT κ a0 = 8) (c9 : Nat) (hp : nuB κ a0 c9) (h : ∀ (κ' : zS), (nuT κ κ' a0 ∧ nuI κ' a0 c9 ∧ nuN κ' a0 = nuN κ a0 ∧ nuK κ' a0 ≤ nuK κ a0) → Q κ') : zRun C 0 mNu_trim [.ref a0] κ (oV Q noX) := by
  refine Nu_trim_run W Ta0 ?_
  replace W := W.lo (Nat.le_trans W.1.2.1 W.1.2.2) (Nat.le_refl (zn κ))
  unfold w_Nu_trim_0
  refine ⟨fun n l0 τ => n = ((zI τ nuLength a0).toInt).toNat ∧ (a0 = l0 ∧ nuR κ τ a0), ⟨_, rfl, ?_⟩, ?_⟩
  · exact ⟨rfl, nuT.rf, ⟨hp.1.1, Int.le_refl _⟩, rfl⟩  -- j1
  rintro n0 _ κ0 W0 T0_0 ⟨hn0, rfl, i0⟩
  refine ⟨fun c1 => ?_, fun c1 => ?_⟩
  · skip
    refine h _ ?_
    · rw [lei, t0i] at c1
      have q := nuR_e i0 hp (Or.inl c1)
      exact ⟨i0.1, q⟩
  · skip
    rw [lei, t0i] at c1
    have l1 := hp.1
    have l2 := i0.2.1
    have d := dec_i (x := zI κ0 nuLength a0) (by omega)
    refine ⟨?_, ?_⟩
    · rw [i0.1.2.1, i0.1.2.2.2.1, inb_iff, d]; omega  -- b3
    refine ⟨fun c2 => ?_, fun c2 => ?_⟩
    · skip
      refine h _ ?_
      · have q := nuR_e i0 hp (Or.inr c2)
        exact ⟨i0.1, q⟩
    · skip
      intro κ_3 hκ_3
      intro W4
      refine ⟨_, ?_, rfl, ?_⟩
      · have s := nuR_s i0 (by omega) c2 hκ_3
        rw [hn0]; omega
      · exact ⟨rfl, (nuR_s i0 (by omega) c2 hκ_3).1⟩  -- i6

theorem Nu_widen_c {C : zC} {n0 : Nat} {a0 : Nat} {a1 : Int32} {κ : zS} {Q : zS → Prop} (W : zW C n0 κ) (Ta0 : zT κ a0 = 8)  (hp : (0 ≤ a1.toInt ∧ a1.toInt ≤ 40000000) ∧ 2 ≤ (zN κ (zR κ nuLimbs a0))) (h : ∀ (κ' : zS), (zF (nuF a0) κ κ' ∧ zI κ' = zI κ ∧ (∀ g b, ¬ (g = nuLimbs ∧ b = a0) → zR κ' g b = zR κ g b) ∧ (a1.toInt ≤ (zN κ' (zR κ' nuLimbs a0)) ∧ (zN κ (zR κ nuLimbs a0)) ≤ (zN κ' (zR κ' nuLimbs a0)) ∧ ((zN κ' (zR κ' nuLimbs a0)) = (zN κ (zR κ nuLimbs a0)) ∨ (zN κ' (zR κ' nuLimbs a0)) ≤ a1.toInt + a1.toInt / 2 + 1)) ∧ ∀ i, i < (zN κ (zR κ nuLimbs a0)) → zA κ' (zR κ' nuLimbs a0) i = zA κ (zR κ nuLimbs a0) i) → Q κ') : zRun C 2 mNu_widen [.ref a0, .int a1] κ (oV Q noX) := by
  refine Nu_widen_run W Ta0 ?_
  replace W := W.lo (Nat.le_trans W.1.2.1 W.1.2.2) (Nat.le_refl (zn κ))
  unfold w_Nu_widen_0
  have oN := W.n (ty_nuLimbs W Ta0)
  have hf := hf_i hp.1.1 hp.1.2
  have h0 := hp.1
  refine ⟨fun c1 => ?_, fun c1 => ?_⟩
  · skip
    refine h _ ?_
    · rw [lei, ofn_i oN] at c1
      exact ⟨zF.rf, rfl, fun _ _ _ => rfl, ⟨c1, Nat.le_refl _, Or.inl rfl⟩, fun _ _ => rfl⟩
  · skip
    refine ⟨?_, ?_⟩
    · decide  -- b2
    intro T2
    rw [lei, ofn_i oN] at c1
    have kx := cnk (x := a1 + a1 / 2 + 1) (by omega)
    refine Ar_copyOf_c W T2  ?_ (fun r3 κ_4 q5 => ?_)
    · exact ⟨⟨by rw [lei, t0i]; omega, by omega⟩, fun e => by
        have e9 := congrArg Int32.toInt e
        rw [ofn_i oN] at e9
        omega⟩
    intro W6
    intro M7
    intro T8
    refine ⟨?_, ?_⟩
    · rw [q5.1]; exact q5.2.2.1  -- b4
    intro κ_9 hκ_9
    intro W10
    refine h _ ?_
    · have h8 : κ_9 = uo κ_4 nuLimbs a0 (zn κ) := by rw [hκ_9, q5.1]
      have k1 := nu_c (o := zN κ (zR κ nuLimbs a0)) (m := a1.toInt.toNat) (n := (a1 + a1 / 2 + 1).toNatClampNeg) (by omega) (by omega)
      obtain ⟨F1, u1, u2, u3, u4, u5, u6⟩ := gr_g (f := nuLimbs) W (show zr nuLimbs = some 20 by decide +kernel) (by decide) Ta0 q5.2 h8 k1.1 k1.2
      refine ⟨F1.mono (fun f x z => ⟨z.2, Or.inl z.1⟩), u1, u2, ?_, fun i hi => ?_⟩
      · rw [u3, u4]
        omega
      · rw [u3]
        exact u6 i (by omega) hi

theorem uV_1 {f : Nat → Int32} : uV f 1 = (f 0).toNatClampNeg := by
  show 0 + (f 0).toNatClampNeg * 2147483648 ^ 0 = _
  omega
theorem uV_2 {f : Nat → Int32} : uV f 2 = (f 0).toNatClampNeg + (f 1).toNatClampNeg * 2147483648 := by
  show 0 + (f 0).toNatClampNeg * 2147483648 ^ 0 + (f 1).toNatClampNeg * 2147483648 ^ 1 = _
  omega
theorem uV_cmp {f g : Nat → Int32} {i : Nat} (h : (f i).toNatClampNeg < (g i).toNatClampNeg) : ∀ {n : Nat}, i < n → (∀ j, i < j → j < n → f j = g j) → uV f n < uV g n
  | 0, hi, _ => absurd hi (Nat.not_lt_zero _)
  | n + 1, hi, he => by
    show uV f n + (f n).toNatClampNeg * 2147483648 ^ n < uV g n + (g n).toNatClampNeg * 2147483648 ^ n
    by_cases z : i = n
    · subst z
      have a := uV_lt (f := f) (n := i)
      have m := Nat.mul_le_mul_right (2147483648 ^ i) h
      rw [Nat.succ_mul] at m
      omega
    · have a := uV_cmp h (n := n) (by omega) (fun j h1 h2 => he j h1 (by omega))
      rw [he n (by omega) (Nat.lt_succ_self n)]
      omega
theorem Nu_isOne_c {C : zC} {n0 : Nat} {a0 : Nat} {κ : zS} {Q : Int32 → zS → Prop} (W : zW C n0 κ) (Ta0 : zT κ a0 = 8) (c9 : Nat) (hp : nuI κ a0 c9) (h : ∀ (v : Int32), (nb v ∧ (v ≠ 0 ↔ nuN κ a0 = 1)) → Q v κ) : zRun C 0 mNu_isOne [.ref a0] κ (oI Q noX) := by
  refine Nu_isOne_run W Ta0 ?_
  replace W := W.lo (Nat.le_trans W.1.2.1 W.1.2.2) (Nat.le_refl (zn κ))
  unfold w_Nu_isOne_0
  have k := nuK_i hp.1
  have lz := hp.1.2.1
  refine ⟨fun c1 => ?_, fun c1 => ?_⟩
  · skip
    refine h _ ?_
    · refine ⟨nb_0, fun z => absurd rfl z, fun z => ?_⟩
      have a := nuK_lt (k := 1) hp (by rw [z]; decide)
      have b : nuK κ a0 ≠ 0 := fun y => by
        have := (nuK_z hp).mp y
        omega
      exact absurd (Int32.toInt_inj.mp (by rw [t1i]; omega)) c1
  · skip
    refine ⟨?_, ?_⟩
    · rw [inb_iff, t0i]; omega  -- b2
    have e : nuN κ a0 = (zA κ (zR κ nuLimbs a0) 0).toNatClampNeg := by
      unfold nuN
      rw [c1]
      exact uV_1
    have l0 := hp.1.2.2 0 (by rw [c1]; decide)
    have k0 := cnk l0
    refine ⟨fun c2 => ?_, fun c2 => ?_⟩
    · skip
      refine h _ ?_
      · refine ⟨nb_0, fun z => absurd rfl z, fun z => ?_⟩
        exact absurd (Int32.toInt_inj.mp (show (zA κ (zR κ nuLimbs a0) 0).toInt = (1 : Int32).toInt by rw [t1i]; omega)) c2
    · skip
      refine h _ ?_
      · refine ⟨nb_1, fun _ => ?_, fun _ => by decide⟩
        have c3 : zA κ (zR κ nuLimbs a0) 0 = 1 := c2
        rw [e, c3]
        rfl

theorem Nu_put_c {C : zC} {n0 : Nat} {a0 : Nat} {a1 : Int64} {κ : zS} {Q : zS → Prop} (W : zW C n0 κ) (Ta0 : zT κ a0 = 8) (c9 : Nat) (hp : (0 ≤ a1.toInt ∧ a1.toInt < 4611686018427387904) ∧ 2 ≤ (zN κ (zR κ nuLimbs a0)) ∧ (zN κ (zR κ nuLimbs a0)) ≤ c9) (h : ∀ (κ' : zS), (zF (nuF a0) κ κ' ∧ (zR κ' = zR κ ∧ zN κ' = zN κ) ∧ nuI κ' a0 c9 ∧ nuN κ' a0 = a1.toInt.toNat) → Q κ') : zRun C 0 mNu_put [.ref a0, .long a1] κ (oV Q noX) := by
  refine Nu_put_run W Ta0 ?_
  replace W := W.lo (Nat.le_trans W.1.2.1 W.1.2.2) (Nat.le_refl (zn κ))
  unfold w_Nu_put_0
  obtain ⟨p1, p2, p3⟩ := hp
  have ow := W.o (show zr nuLimbs = some 20 by decide +kernel) (by decide) Ta0
  have d0 := (j_and (x := a1)).2
  have d1 := j_shr (x := a1) p1.1
  have d2 := j_i32 (x := (a1.toUInt64 >>> ((31 : Int32).toInt64.toUInt64 &&& Int64.toUInt64 63)).toInt64) (by rw [d1]; omega) (by rw [d1]; omega)
  rw [d1] at d2
  refine ⟨?_, ?_⟩
  · rw [inb_iff, t0i]; omega  -- b1
  intro κ_1 hκ_1
  intro W2
  have z1 : zR κ_1 = zR κ := by rw [hκ_1]; rfl
  have n1 : zN κ_1 = zN κ := by rw [hκ_1]; rfl
  refine ⟨?_, ?_⟩
  · rw [z1, n1, inb_iff, t1i]; omega  -- b2
  intro κ_3 hκ_3
  intro W4
  have z3 : zR κ_3 = zR κ := by rw [hκ_3]; exact z1
  have n3 : zN κ_3 = zN κ := by rw [hκ_3]; exact n1
  have F3 : zF (nuF a0) κ κ_3 := by
    have f1 : zF (nuF a0) κ κ_1 := by rw [hκ_1]; exact zF_ua (by rw [ow]; exact ⟨rfl, Or.inl rfl⟩)
    have o1 : zO κ_1 = zO κ := by rw [hκ_1]; rfl
    refine f1.tr ?_
    rw [hκ_3]
    exact zF_ua (by rw [z1, o1, ow]; exact ⟨rfl, Or.inl rfl⟩)
  have L0 : zA κ_3 (zR κ nuLimbs a0) 0 = (a1 &&& 2147483647).toInt32 := by
    rw [hκ_3, z1]
    refine (congrFun (if_pos rfl) 0).trans ?_
    show upd (zA κ_1 (zR κ nuLimbs a0)) 1 _ 0 = _
    have e : zA κ_1 (zR κ nuLimbs a0) 0 = (a1 &&& 2147483647).toInt32 := by rw [hκ_1]; exact (congrFun (if_pos rfl) 0).trans (if_pos rfl)
    rw [← e]
    exact if_neg (by decide)
  have L1 : zA κ_3 (zR κ nuLimbs a0) 1 = ((a1.toUInt64 >>> ((31 : Int32).toInt64.toUInt64 &&& Int64.toUInt64 63)).toInt64).toInt32 := by
    rw [hκ_3, z1]
    exact (congrFun (if_pos rfl) 1).trans (if_pos rfl)
  have g0 : (zA κ_3 (zR κ nuLimbs a0) 0).toInt = a1.toInt % 2147483648 := by rw [L0]; exact d0
  have g1 : (zA κ_3 (zR κ nuLimbs a0) 1).toInt = a1.toInt / 2147483648 := by rw [L1]; exact d2
  have k0 := cnk (x := zA κ_3 (zR κ nuLimbs a0) 0) (by omega)
  have k1 := cnk (x := zA κ_3 (zR κ nuLimbs a0) 1) (by omega)
  have gen : ∀ (σ : zS) (m : Int32), σ = ui κ_3 nuLength a0 m → (0 ≤ m.toInt ∧ m.toInt ≤ 2) → (0 < m.toInt → 0 < (zA κ_3 (zR κ nuLimbs a0) (m.toInt - 1).toNat).toInt) → uV (zA κ_3 (zR κ nuLimbs a0)) m.toNatClampNeg = a1.toInt.toNat → zF (nuF a0) κ σ ∧ (zR σ = zR κ ∧ zN σ = zN κ) ∧ nuI σ a0 c9 ∧ nuN σ a0 = a1.toInt.toNat := fun σ m e m1 m2 m3 => by
    have rs : zR σ = zR κ := by rw [e]; exact z3
    have nsq : zN σ = zN κ := by rw [e]; exact n3
    have as : zA σ = zA κ_3 := by rw [e]; rfl
    have is : zI σ nuLength a0 = m := by rw [e]; exact if_pos ⟨rfl, rfl⟩
    refine ⟨F3.tr (by rw [e]; exact zF_ui ⟨rfl, Or.inr rfl⟩), ⟨rs, nsq⟩, ⟨⟨?_, ?_, fun i hi => ?_⟩, ?_⟩, ?_⟩
    · rw [rs, nsq, is]; omega
    · rw [rs, nsq]; omega
    · rw [rs, as]
      rw [is] at hi
      have y : i = 0 ∨ i = 1 := by omega
      rcases y with y | y
      · rw [y]; omega
      · rw [y]; omega
    · unfold nuZ
      rw [rs, as, is]
      exact m2
    · unfold nuN
      rw [rs, as, is]
      exact m3
  refine ⟨?_, ?_⟩
  · rw [z3, n3, inb_iff, t1i]; omega  -- b3
  refine ⟨fun c5 => ?_, fun c5 => ?_⟩
  · skip
    refine ⟨?_, ?_⟩
    · rw [z3, n3, inb_iff, t0i]; omega  -- b4
    refine ⟨fun c6 => ?_, fun c6 => ?_⟩
    · skip
      intro κ_7 hκ_7
      intro W8
      refine h _ ?_
      · rw [z3] at c5 c6
        have e1 : (zA κ_3 (zR κ nuLimbs a0) 1).toInt = 0 := congrArg Int32.toInt c5
        have e0 : (zA κ_3 (zR κ nuLimbs a0) 0).toInt = 0 := congrArg Int32.toInt c6
        refine gen _ _ hκ_7 (by decide) (fun y => absurd y (by decide)) ?_
        show 0 = _
        omega
    · skip
      intro κ_9 hκ_9
      intro W10
      refine h _ ?_
      · rw [z3] at c5 c6
        have e1 : (zA κ_3 (zR κ nuLimbs a0) 1).toInt = 0 := congrArg Int32.toInt c5
        have e0 : (zA κ_3 (zR κ nuLimbs a0) 0).toInt ≠ 0 := fun y => c6 (Int32.toInt_inj.mp y)
        refine gen _ _ hκ_9 (by decide) (fun _ => ?_) ?_
        · show 0 < (zA κ_3 (zR κ nuLimbs a0) 0).toInt
          omega
        · show uV _ 1 = _
          rw [uV_1]
          omega
  · skip
    intro κ_11 hκ_11
    intro W12
    refine h _ ?_
    · rw [z3] at c5
      have e1 : (zA κ_3 (zR κ nuLimbs a0) 1).toInt ≠ 0 := fun y => c5 (Int32.toInt_inj.mp y)
      refine gen _ _ hκ_11 (by decide) (fun _ => ?_) ?_
      · show 0 < (zA κ_3 (zR κ nuLimbs a0) 1).toInt
        omega
      · show uV _ 2 = _
        rw [uV_2]
        omega

theorem Nu_small_c {C : zC} {n0 : Nat} {a0 : Nat} {κ : zS} {Q : Int64 → zS → Prop} (W : zW C n0 κ) (Ta0 : zT κ a0 = 8) (c9 : Nat) (hp : nuB κ a0 c9) (h : ∀ (v : Int64), ((0 ≤ v.toInt ∧ v.toInt < 4611686018427387904) ∧ (nuK κ a0 ≤ 2 → v.toInt = nuN κ a0)) → Q v κ) : zRun C 0 mNu_small [.ref a0] κ (oJ Q noX) := by
  refine Nu_small_run W Ta0 ?_
  replace W := W.lo (Nat.le_trans W.1.2.1 W.1.2.2) (Nat.le_refl (zn κ))
  unfold w_Nu_small_0
  have k := nuK_i hp
  have lz := hp.1
  have l2 := hp.2.1
  refine ⟨fun c1 => ?_, fun c1 => ?_⟩
  · skip
    refine ⟨fun c2 => ?_, fun c2 => ?_⟩
    · skip
      refine ⟨?_, ?_⟩
      · rw [inb_iff, t1i]; omega  -- b1
      refine ⟨?_, ?_⟩
      · rw [inb_iff, t0i]; omega  -- b2
      refine h _ ?_
      · have n0z : (zI κ nuLength a0).toInt ≠ 0 := fun y => c1 (Int32.toInt_inj.mp y)
        have n1z : (zI κ nuLength a0).toInt ≠ 1 := fun y => c2 (Int32.toInt_inj.mp y)
        have l0 := hp.2.2 0 (by omega)
        have l1 := hp.2.2 1 (by omega)
        have h0 := ihi (zA κ (zR κ nuLimbs a0) 0)
        have h1 := ihi (zA κ (zR κ nuLimbs a0) 1)
        have e1 : (zA κ (zR κ nuLimbs a0) 1).toInt64.toInt = (zA κ (zR κ nuLimbs a0) 1).toInt := Int32.toInt_toInt64 _
        have t := j_top (a := (zA κ (zR κ nuLimbs a0) 1).toInt64) (y := zA κ (zR κ nuLimbs a0) 0) (by omega) (by omega) l0
        rw [e1] at t
        refine ⟨?_, fun z => ?_⟩
        · show 0 ≤ (((zA κ (zR κ nuLimbs a0) 1).toInt64 <<< ((31 : Int32).toInt64 &&& 63)) ||| (zA κ (zR κ nuLimbs a0) 0).toInt64).toInt ∧ (((zA κ (zR κ nuLimbs a0) 1).toInt64 <<< ((31 : Int32).toInt64 &&& 63)) ||| (zA κ (zR κ nuLimbs a0) 0).toInt64).toInt < _
          rw [t]; omega
        · show (((zA κ (zR κ nuLimbs a0) 1).toInt64 <<< ((31 : Int32).toInt64 &&& 63)) ||| (zA κ (zR κ nuLimbs a0) 0).toInt64).toInt = _
          have e2 : (zI κ nuLength a0).toNatClampNeg = 2 := by
            have : nuK κ a0 = (zI κ nuLength a0).toNatClampNeg := rfl
            omega
          have k0 := cnk l0
          have k1 := cnk l1
          unfold nuN
          rw [t, e2, uV_2]
          omega
    · skip
      refine ⟨?_, ?_⟩
      · rw [inb_iff, t0i]; omega  -- b4
      refine h _ ?_
      · have l0 := hp.2.2 0 (by rw [c2]; decide)
        have h0 := ihi (zA κ (zR κ nuLimbs a0) 0)
        have k0 := cnk l0
        have e1 : (zA κ (zR κ nuLimbs a0) 0).toInt64.toInt = (zA κ (zR κ nuLimbs a0) 0).toInt := Int32.toInt_toInt64 _
        refine ⟨?_, fun _ => ?_⟩
        · show 0 ≤ (zA κ (zR κ nuLimbs a0) 0).toInt64.toInt ∧ (zA κ (zR κ nuLimbs a0) 0).toInt64.toInt < _
          omega
        · show (zA κ (zR κ nuLimbs a0) 0).toInt64.toInt = _
          unfold nuN
          rw [c2, e1]
          show _ = ((uV (zA κ (zR κ nuLimbs a0)) 1 : Nat) : Int)
          rw [uV_1]
          omega
  · skip
    refine h _ ?_
    · refine ⟨by decide, fun _ => ?_⟩
      unfold nuN
      rw [c1]
      rfl

theorem nu_ne {C : zC} {n0 x y : Nat} {κ : zS} (W : zW C n0 κ) (Tx : zT κ x = 8) (Ty : zT κ y = 8) (h : x ≠ y) : zR κ nuLimbs x ≠ zR κ nuLimbs y := fun e => by
  have a := W.o (show zr nuLimbs = some 20 by decide +kernel) (by decide) Tx
  have b := W.o (show zr nuLimbs = some 20 by decide +kernel) (by decide) Ty
  rw [e, b] at a
  exact h (congrArg Prod.snd a).symm
theorem Nu_copy_c {C : zC} {n0 : Nat} {a0 : Nat} {a1 : Nat} {κ : zS} {Q : zS → Prop} (W : zW C n0 κ) (Ta0 : zT κ a0 = 8) (Ta1 : zT κ a1 = 8) (c9 d9 : Nat) (hp : (2 ≤ (zN κ (zR κ nuLimbs a0)) ∧ (zN κ (zR κ nuLimbs a0)) ≤ c9) ∧ nuB κ a1 d9 ∧ a0 ≠ a1 ∧ nuK κ a1 + nuK κ a1 / 2 + 1 ≤ c9 ∧ c9 ≤ 30000000) (h : ∀ (κ' : zS), (zF (nuF a0) κ κ' ∧ nuB κ' a0 c9 ∧ nuN κ' a0 = nuN κ a1 ∧ nuK κ' a0 = nuK κ a1 ∧ (nuZ κ a1 → nuZ κ' a0)) → Q κ') : zRun C 1 mNu_copy [.ref a0, .ref a1] κ (oV Q noX) := by
  refine Nu_copy_run W Ta0 Ta1 ?_
  replace W := W.lo (Nat.le_trans W.1.2.1 W.1.2.2) (Nat.le_refl (zn κ))
  unfold w_Nu_copy_0
  obtain ⟨p1, p2, p3, p4, p5⟩ := hp
  have k := nuK_i p2
  have kd : nuK κ a1 = (zI κ nuLength a1).toNatClampNeg := rfl
  have lb := p2.1
  have nF : ∀ f, ¬ nuF a0 f a1 := fun f z => p3 z.1.symm
  have hj31 : ∀ (l0 : Nat) (l1 : Nat) (τ : zS), zW C (zn κ) τ → zT τ l0 = 8 → zT τ l1 = 8 → (a0 = l0 ∧ a1 = l1 ∧ zF (nuF a0) κ τ ∧ zI τ = zI κ ∧ (2 ≤ (zN τ (zR τ nuLimbs a0)) ∧ (zN τ (zR τ nuLimbs a0)) ≤ c9) ∧ nuK κ a1 ≤ (zN τ (zR τ nuLimbs a0))) → w_Nu_copy_31 C (zn κ) Q  l0 l1 τ := by
    rintro _ _ τ31 W31 T31_0 T31_1 ⟨rfl, rfl, j31⟩
    unfold w_Nu_copy_31
    obtain ⟨Z, I, l, g⟩ := j31
    have u := nu_z W Ta1 Z (nF nuLimbs) (nF nuLength)
    have ne := nu_ne W31 T31_0 T31_1 p3
    refine ⟨?_, ?_⟩
    · rw [I, u.2.1]
      refine ⟨by decide, by decide, by rw [lei, t0i]; omega, ?_, ?_⟩
      · show 0 + _ ≤ _
        rw [u.2.2.2]; omega
      · show 0 + _ ≤ _
        omega
    intro κ_1 hκ_1
    intro W2
    intro κ_3 hκ_3
    intro W4
    refine h _ ?_
    · have ow := W31.o (show zr nuLimbs = some 20 by decide +kernel) (by decide) T31_0
      have Z1 : zF (nuF a0) τ31 κ_1 := by rw [hκ_1]; exact zF_uc (by rw [ow]; exact ⟨rfl, Or.inl rfl⟩)
      have Z3 : zF (nuF a0) κ_1 κ_3 := by rw [hκ_3]; exact zF_ui ⟨rfl, Or.inr rfl⟩
      have R3 : zR κ_3 = zR τ31 := by rw [hκ_3, hκ_1]; rfl
      have N3 : zN κ_3 = zN τ31 := by rw [hκ_3, hκ_1]; rfl
      have I3 : zI κ_3 nuLength a0 = zI κ nuLength a1 := by
        rw [hκ_3]
        refine (if_pos ⟨rfl, rfl⟩).trans ?_
        rw [hκ_1, ← I]
        rfl
      rw [I, u.2.1] at hκ_1
      have A3 : ∀ i, i < (zI κ nuLength a1).toNatClampNeg → zA κ_3 (zR τ31 nuLimbs a0) i = zA κ (zR κ nuLimbs a1) i := fun i hi => by
        have e : zA κ_3 = zA κ_1 := by rw [hκ_3]; rfl
        rw [e, hκ_1]
        refine (congrFun (if_pos rfl) i).trans ?_
        show (if 0 ≤ i ∧ i < 0 + (zI κ nuLength a1).toNatClampNeg then zA τ31 (zR κ nuLimbs a1) (0 + (i - 0)) else _) = _
        rw [if_pos ⟨Nat.zero_le _, by omega⟩, u.2.2.1]
        congr 1
        omega
      refine ⟨(Z.tr Z1).tr Z3, ⟨?_, ?_, fun i hi => ?_⟩, ?_, ?_, fun z => ?_⟩
      · rw [R3, N3, I3]; omega
      · rw [R3, N3]; exact l
      · rw [I3] at hi
        rw [R3, A3 i (by omega)]
        exact p2.2.2 i hi
      · unfold nuN
        rw [I3, R3]
        exact uV_e A3
      · unfold nuK
        rw [I3]
      · intro y
        rw [I3] at y ⊢
        rw [R3, A3 _ (by omega)]
        exact z y
  refine ⟨fun c5 => ?_, fun c5 => ?_⟩
  · skip
    refine hj31 _ _ _ W ?_ ?_ ?_
    · exact Ta0  -- t3
    · exact Ta1  -- t4
    · have oN := W.n (ty_nuLimbs W Ta0)
      rw [lei, ofn_i oN] at c5
      exact ⟨rfl, rfl, zF.rf, rfl, p1, by omega⟩
  · skip
    refine ⟨?_, ?_⟩
    · decide  -- b6
    have oN := W.n (ty_nuLimbs W Ta0)
    rw [lei, ofn_i oN] at c5
    have hf := hf_i (x := zI κ nuLength a1) lb.1 (by omega)
    have kx := cnk (x := zI κ nuLength a1 + zI κ nuLength a1 / 2 + 1) (by omega)
    refine ⟨?_, ?_⟩
    · exact ⟨by rw [lei, t0i]; omega, by omega⟩  -- b7
    intro κ_6 hκ_6
    intro W7
    refine ⟨?_, ?_⟩
    · rw [hκ_6]; exact if_pos rfl  -- b8
    intro κ_8 hκ_8
    intro W9
    have k1 := nu_c (o := zN κ (zR κ nuLimbs a0)) (m := nuK κ a1) (n := (zI κ nuLength a1 + zI κ nuLength a1 / 2 + 1).toNatClampNeg) (by omega) (by omega)
    refine hj31 _ _ _ W9 ?_ ?_ ?_
    · have k1 := nu_c (o := zN κ (zR κ nuLimbs a0)) (m := nuK κ a1) (n := (zI κ nuLength a1 + zI κ nuLength a1 / 2 + 1).toNatClampNeg) (by omega) (by omega)
      exact (we_gr W (show zr nuLimbs = some 20 by decide +kernel) (by decide) Ta0 hκ_6 hκ_8 k1.1 k1.2).1.t Ta0 (by decide)
    · have k1 := nu_c (o := zN κ (zR κ nuLimbs a0)) (m := nuK κ a1) (n := (zI κ nuLength a1 + zI κ nuLength a1 / 2 + 1).toNatClampNeg) (by omega) (by omega)
      exact (we_gr W (show zr nuLimbs = some 20 by decide +kernel) (by decide) Ta0 hκ_6 hκ_8 k1.1 k1.2).1.t Ta1 (by decide)
    · have k1 := nu_c (o := zN κ (zR κ nuLimbs a0)) (m := nuK κ a1) (n := (zI κ nuLength a1 + zI κ nuLength a1 / 2 + 1).toNatClampNeg) (by omega) (by omega)
      obtain ⟨F1, u1, u2, u3, u4, u5⟩ := we_gr W (show zr nuLimbs = some 20 by decide +kernel) (by decide) Ta0 hκ_6 hκ_8 k1.1 k1.2
      refine ⟨rfl, rfl, F1.mono (fun f x z => ⟨z.2, Or.inl z.1⟩), u1, ?_, ?_⟩
      · rw [u3, u4]; omega
      · rw [u3, u4]; omega

theorem Nu_compare_c {C : zC} {n0 : Nat} {a0 : Nat} {a1 : Nat} {κ : zS} {Q : Int32 → zS → Prop} (W : zW C n0 κ) (Ta0 : zT κ a0 = 8) (Ta1 : zT κ a1 = 8) (c9 d9 : Nat) (hp : nuI κ a0 c9 ∧ nuI κ a1 d9) (h : ∀ (v : Int32), ((v.toInt = -1 ∧ nuN κ a0 < nuN κ a1) ∨ (v.toInt = 0 ∧ nuN κ a0 = nuN κ a1) ∨ (v.toInt = 1 ∧ nuN κ a1 < nuN κ a0)) → Q v κ) : zRun C 0 mNu_compare [.ref a0, .ref a1] κ (oI Q noX) := by
  refine Nu_compare_run W Ta0 Ta1 ?_
  replace W := W.lo (Nat.le_trans W.1.2.1 W.1.2.2) (Nat.le_refl (zn κ))
  unfold w_Nu_compare_0
  obtain ⟨h0, h1⟩ := hp
  have k0 := nuK_i h0.1
  have k1 := nuK_i h1.1
  have b0 := h0.1.1
  have b1 := h1.1.1
  have i0 := ihi (zI κ nuLength a0)
  refine ⟨fun c1 => ?_, fun c1 => ?_⟩
  · skip
    intro x2 hx2
    unfold w_Nu_compare_35
    refine ⟨fun n l0 l1 l2 τ => n = (l2.toInt + 1).toNat ∧ (κ = τ ∧ a0 = l0 ∧ a1 = l1 ∧ (-1 ≤ l2.toInt ∧ l2.toInt < (zI κ nuLength a0).toInt) ∧ ∀ j : Nat, l2.toInt < (j : Int) → (j : Int) < (zI κ nuLength a0).toInt → zA κ (zR κ nuLimbs a0) j = zA κ (zR κ nuLimbs a1) j), ⟨_, rfl, ?_⟩, ?_⟩
    · have e : x2.toInt = (zI κ nuLength a0).toInt - 1 := by rw [hx2, sub_i (by rw [t1i]; omega) (by rw [t1i]; omega), t1i]
      exact ⟨rfl, rfl, rfl, by omega, fun j h2 h3 => by omega⟩
    rintro n35 _ _ x35_2 _ W35 T35_0 T35_1 ⟨hn35, rfl, rfl, rfl, i35⟩
    obtain ⟨l35, e35⟩ := i35
    have cl : (zI κ nuLength a0).toInt = (zI κ nuLength a1).toInt := congrArg Int32.toInt c1
    refine ⟨fun c3 => ?_, fun c3 => ?_⟩
    · skip
      refine h _ ?_
      · rw [lti, t0i] at c3
        refine Or.inr (Or.inl ⟨rfl, ?_⟩)
        unfold nuN
        rw [← c1]
        exact uV_e (fun i hi => e35 i (by omega) (by
          have : nuK κ a0 = (zI κ nuLength a0).toNatClampNeg := rfl
          omega))
    · skip
      rw [lti, t0i] at c3
      have kx := cnk (x := x35_2) (by omega)
      have p0 := h0.1.2.2 x35_2.toNatClampNeg (by omega)
      have p1 := h1.1.2.2 x35_2.toNatClampNeg (by omega)
      have q0 := cnk p0
      have q1 := cnk p1
      refine ⟨?_, ?_⟩
      · rw [inb_iff]; omega  -- b3
      refine ⟨?_, ?_⟩
      · rw [inb_iff]; omega  -- b4
      refine ⟨fun c4 => ?_, fun c4 => ?_⟩
      · skip
        intro x5 hx5
        refine ⟨_, ?_, rfl, ?_⟩
        · have e : x5.toInt = x35_2.toInt - 1 := by rw [hx5, add_i (by rw [tmi]; omega) (by rw [tmi]; omega), tmi]; omega
          rw [hn35]; omega
        · have e : x5.toInt = x35_2.toInt - 1 := by rw [hx5, add_i (by rw [tmi]; omega) (by rw [tmi]; omega), tmi]; omega
          refine ⟨rfl, rfl, rfl, by omega, fun j h2 h3 => ?_⟩
          by_cases z : j = x35_2.toNatClampNeg
          · rw [z]; exact c4
          · exact e35 j (by omega) h3
      · skip
        refine ⟨?_, ?_⟩
        · rw [inb_iff]; omega  -- b7
        refine ⟨?_, ?_⟩
        · rw [inb_iff]; omega  -- b8
        have ne9 : (zA κ (zR κ nuLimbs a0) x35_2.toNatClampNeg).toInt ≠ (zA κ (zR κ nuLimbs a1) x35_2.toNatClampNeg).toInt := fun y => c4 (Int32.toInt_inj.mp y)
        have kq : nuK κ a0 = (zI κ nuLength a0).toNatClampNeg := rfl
        refine ⟨fun c6 => ?_, fun c6 => ?_⟩
        · skip
          refine h _ ?_
          · rw [lei] at c6
            refine Or.inr (Or.inr ⟨rfl, ?_⟩)
            unfold nuN
            rw [← c1]
            exact uV_cmp (i := x35_2.toNatClampNeg) (by omega) (by omega) (fun j h2 h3 => (e35 j (by omega) (by omega)).symm)
        · skip
          refine h _ ?_
          · rw [lei] at c6
            refine Or.inl ⟨rfl, ?_⟩
            unfold nuN
            rw [← c1]
            exact uV_cmp (i := x35_2.toNatClampNeg) (by omega) (by omega) (fun j h2 h3 => e35 j (by omega) (by omega))
  · skip
    have ne9 : (zI κ nuLength a0).toInt ≠ (zI κ nuLength a1).toInt := fun y => c1 (Int32.toInt_inj.mp y)
    refine ⟨fun c7 => ?_, fun c7 => ?_⟩
    · skip
      refine h _ ?_
      · rw [lei] at c7
        refine Or.inr (Or.inr ⟨rfl, ?_⟩)
        have g := nuN_ge h0 (by omega)
        have l := nuN_lt (κ := κ) (x := a1)
        exact Nat.lt_of_lt_of_le (Nat.lt_of_lt_of_le l (Nat.pow_le_pow_right (by decide) (by omega))) g
    · skip
      refine h _ ?_
      · rw [lei] at c7
        refine Or.inl ⟨rfl, ?_⟩
        have g := nuN_ge h1 (by omega)
        have l := nuN_lt (κ := κ) (x := a0)
        exact Nat.lt_of_lt_of_le (Nat.lt_of_lt_of_le l (Nat.pow_le_pow_right (by decide) (by omega))) g

end
section
set_option maxHeartbeats 1600000
/-! the class: Num's times, plus, minus -/
theorem i_and {x : Int32} : (x &&& 2147483647).toInt = x.toInt % 2147483648 := by
  have e : (x &&& 2147483647).toBitVec.toNat = x.toBitVec.toNat % 2147483648 := by
    rw [Int32.toBitVec_and, BitVec.toNat_and, show (2147483647 : Int32).toBitVec.toNat = 2 ^ 31 - 1 from rfl, Nat.and_two_pow_sub_one_eq_mod]
  have t : (x &&& 2147483647).toInt = ((x &&& 2147483647).toBitVec.toNat : Int) := BitVec.toInt_eq_toNat_of_lt (by rw [e]; omega)
  have c : x.toInt = if 2 * x.toBitVec.toNat < 2 ^ 32 then (x.toBitVec.toNat : Int) else (x.toBitVec.toNat : Int) - (2 ^ 32 : Nat) := BitVec.toInt_eq_toNat_cond x.toBitVec
  rw [t, e]
  split at c <;> omega
theorem uV_pad {f : Nat → Int32} {k : Nat} : ∀ {n : Nat}, k ≤ n → (∀ i, k ≤ i → i < n → f i = 0) → uV f n = uV f k := by
  intro n
  induction n with
  | zero =>
    intro h _
    have : k = 0 := by omega
    rw [this]
  | succ n ih =>
    intro h z
    by_cases e : k = n + 1
    · rw [e]
    · have a := ih (by omega) (fun i h1 h2 => z i h1 (by omega))
      show uV f n + (f n).toNatClampNeg * 2147483648 ^ n = _
      rw [z n (by omega) (Nat.lt_succ_self n), a]
      show uV f k + 0 * _ = _
      omega
theorem p31_s {n : Nat} : 2147483648 ^ (n + 1) = 2147483648 * 2147483648 ^ n := by rw [Nat.pow_succ, Nat.mul_comm]
/-- only limbs were written -/
def nuE (κ τ : zS) (x : Nat) : Prop := zF (nuF x) κ τ ∧ zR τ = zR κ ∧ zI τ = zI κ ∧ zN τ = zN κ
theorem nuE.rf {κ : zS} {x : Nat} : nuE κ κ x := ⟨zF.rf, rfl, rfl, rfl⟩
theorem nuE.tr {κ τ σ : zS} {x : Nat} (h : nuE κ τ x) (g : nuE τ σ x) : nuE κ σ x := ⟨h.1.tr g.1, g.2.1.trans h.2.1, g.2.2.1.trans h.2.2.1, g.2.2.2.trans h.2.2.2⟩
theorem nu_u {C : zC} {n0 x i : Nat} {κ τ : zS} {v : Int32} (W : zW C n0 κ) (T : zT κ x = 8) (e : τ = ua κ (zR κ nuLimbs x) i v) : nuE κ τ x ∧ zA τ (zR κ nuLimbs x) = upd (zA κ (zR κ nuLimbs x)) i v ∧ zT τ x = 8 := by
  have o := W.o (show zr nuLimbs = some 20 by decide +kernel) (by decide) T
  exact ⟨⟨by rw [e]; exact zF_ua (by rw [o]; exact ⟨rfl, Or.inl rfl⟩), by rw [e]; rfl, by rw [e]; rfl, by rw [e]; rfl⟩, by rw [e]; exact if_pos rfl, by rw [e]; exact T⟩
/-- a product by a short number, limb by limb -/
def tmI (L M : Nat → Int32) (q i c : Nat) : Prop := uV M i + c * 2147483648 ^ i = uV L i * q ∧ c < 2147483648 ∧ (∀ j, j < i → 0 ≤ (M j).toInt) ∧ ∀ j, i ≤ j → M j = L j
theorem ar31 {q p D S c x v : Nat} (h : D + c * p = S * q) (hv : v = x * q + c) : D + v % 2147483648 * p + v / 2147483648 * (2147483648 * p) = (S + x * p) * q := by
  have m := Nat.div_add_mod v 2147483648
  have e : (2147483648 * (v / 2147483648) + v % 2147483648) * p = (x * q + c) * p := by rw [m, hv]
  rw [Nat.add_mul, Nat.add_mul] at e
  have f : v / 2147483648 * (2147483648 * p) = 2147483648 * (v / 2147483648) * p := by
    rw [← Nat.mul_assoc, Nat.mul_comm (v / 2147483648) 2147483648]
  rw [Nat.add_mul, Nat.mul_right_comm x p q]
  omega
theorem tmI_s {L M M' : Nat → Int32} {q i c : Nat} {x : Int32} (h : tmI L M q i c) (hq : q ≤ 2147483648) (ex : x.toInt = (((L i).toNatClampNeg * q + c : Nat) : Int) % 2147483648) (e : M' = upd M i x) : tmI L M' q (i + 1) (((L i).toNatClampNeg * q + c) / 2147483648) := by
  obtain ⟨h1, h2, h3, h4⟩ := h
  have l := lim31 (L i)
  have m : (L i).toNatClampNeg * q ≤ 2147483647 * 2147483648 := Nat.mul_le_mul (by omega) hq
  have kx := cnk (x := x) (by omega)
  have mi : M' i = x := by rw [e]; exact if_pos rfl
  have mj : ∀ j, j ≠ i → M' j = M j := fun j hj => by rw [e]; exact if_neg hj
  refine ⟨?_, by omega, fun j hj => ?_, fun j hj => ?_⟩
  · show uV M' i + (M' i).toNatClampNeg * 2147483648 ^ i + _ = (uV L i + (L i).toNatClampNeg * 2147483648 ^ i) * q
    rw [uV_e (g := M) (fun j hj => mj j (Nat.ne_of_lt hj)), mi, p31_s]
    have e9 : x.toNatClampNeg = ((L i).toNatClampNeg * q + c) % 2147483648 := by omega
    rw [e9]
    exact ar31 h1 rfl
  · by_cases z : j = i
    · rw [z, mi]; omega
    · rw [mj j z]; exact h3 j (by omega)
  · rw [mj j (by omega)]; exact h4 j (by omega)
theorem Nu_times_c {C : zC} {n0 : Nat} {a0 : Nat} {a1 : Int64} {κ : zS} {Q : zS → Prop} (W : zW C n0 κ) (Ta0 : zT κ a0 = 8) (c9 : Nat) (hp : nuI κ a0 c9 ∧ (0 ≤ a1.toInt ∧ a1.toInt ≤ 2147483648) ∧ nuK κ a0 + 1 + (nuK κ a0 + 1) / 2 + 1 ≤ c9 ∧ c9 ≤ 30000000) (h : ∀ (κ' : zS), (zF (nuF a0) κ κ' ∧ nuI κ' a0 c9 ∧ nuN κ' a0 = nuN κ a0 * a1.toInt.toNat) → Q κ') : zRun C 3 mNu_times [.ref a0, .long a1] κ (oV Q noX) := by
  refine Nu_times_run W Ta0 ?_
  replace W := W.lo (Nat.le_trans W.1.2.1 W.1.2.2) (Nat.le_refl (zn κ))
  unfold w_Nu_times_0
  obtain ⟨I0, p1, p2, p3⟩ := hp
  have k0 := nuK_i I0.1
  have lb := I0.1.1
  have lr := I0.1.2.1
  have e1 := cn1 (x := zI κ nuLength a0) lb.1 (by omega)
  refine ⟨fun c1 => ?_, fun c1 => ?_⟩
  · skip
    intro T2
    refine Nu_widen_c W T2  ?_ (fun κ_3 q4 => ?_)
    · exact ⟨by rw [e1.2]; omega, lr.1⟩  -- p1
    obtain ⟨F3, I3, R3, L3, A3⟩ := q4
    have T3 : zT κ_3 a0 = 8 := F3.t Ta0 (by decide)
    rw [e1.2] at L3
    intro W5
    intro M6
    unfold w_Nu_times_22
    refine ⟨fun n l0 l1 l3 l5 τ => n = (nuK κ a0 - l5.toInt.toNat) ∧ (a0 = l0 ∧ a1 = l1 ∧ nuE κ_3 τ a0 ∧ (0 ≤ l5.toInt ∧ l5.toInt ≤ nuK κ a0) ∧ 0 ≤ l3.toInt ∧ tmI (zA κ_3 (zR κ_3 nuLimbs a0)) (zA τ (zR κ_3 nuLimbs a0)) a1.toInt.toNat l5.toNatClampNeg l3.toInt.toNat), ⟨_, rfl, ?_⟩, ?_⟩
    · exact ⟨rfl, rfl, nuE.rf, ⟨by decide, by rw [t0i]; omega⟩, by decide, by
        show 0 + 0 * _ = 0 * _
        omega, by decide, fun j hj => absurd hj (Nat.not_lt_zero _), fun _ _ => rfl⟩
    rintro n22 _ _ x22_3 x22_5 κ22 W22 T22_0 ⟨hn22, rfl, rfl, i22⟩
    obtain ⟨E22, k22, c22, J22⟩ := i22
    have rs := E22.2.1
    have is := E22.2.2.1
    have ns := E22.2.2.2
    have kn := cnk k22.1
    refine ⟨fun c7 => ?_, fun c7 => ?_⟩
    · skip
      refine ⟨?_, ?_⟩
      · rw [rs, ns, is, I3, inb_iff]; omega  -- b3
      intro κ_8 hκ_8
      intro W9
      intro κ_10 hκ_10
      intro W11
      intro T12
      rw [lei, is, I3] at c7
      have kk : x22_5.toNatClampNeg = nuK κ a0 := by omega
      rw [kk] at J22
      obtain ⟨u1, u2, u3⟩ := nu_u W22 T22_0 hκ_8
      rw [rs] at u2
      have cb := J22.2.1
      have ec := j_i32 (x := x22_3) c22 (by omega)
      have kc := cnk (x := x22_3.toInt32) (by omega)
      have E8 := E22.tr u1
      have R10 : zR κ_10 = zR κ_3 := by rw [hκ_10]; exact E8.2.1
      have N10 : zN κ_10 = zN κ_3 := by rw [hκ_10]; exact E8.2.2.2
      have A10 : zA κ_10 = zA κ_8 := by rw [hκ_10]; rfl
      have Z10 : zF (nuF a0) κ κ_10 := (F3.tr E8.1).tr (by rw [hκ_10]; exact zF_ui ⟨rfl, Or.inr rfl⟩)
      have I10 : zI κ_10 nuLength a0 = zI κ nuLength a0 + 1 := by
        rw [hκ_10]
        refine (if_pos ⟨rfl, rfl⟩).trans ?_
        rw [E8.2.2.1, I3]
      have ix : (zI κ22 nuLength a0).toNatClampNeg = nuK κ a0 := by rw [is, I3]; rfl
      rw [ix] at u2
      have at9 : zA κ_8 (zR κ_3 nuLimbs a0) (nuK κ a0) = x22_3.toInt32 := by rw [u2]; exact if_pos rfl
      have al9 : ∀ j, j ≠ nuK κ a0 → zA κ_8 (zR κ_3 nuLimbs a0) j = zA κ22 (zR κ_3 nuLimbs a0) j := fun j hj => by rw [u2]; exact if_neg hj
      have B10 : nuB κ_10 a0 c9 := by
        refine ⟨?_, ?_, fun i hi => ?_⟩
        · rw [R10, N10, I10, e1.2]; omega
        · rw [R10, N10]; omega
        · rw [I10, e1.2] at hi
          rw [R10, A10]
          by_cases z : i = nuK κ a0
          · rw [z, at9]; omega
          · rw [al9 i z]; exact J22.2.2.1 i (by omega)
      have V10 : nuN κ_10 a0 = nuN κ a0 * a1.toInt.toNat := by
        unfold nuN
        rw [I10, e1.1, R10, A10]
        show uV _ (nuK κ a0) + (zA κ_8 (zR κ_3 nuLimbs a0) (nuK κ a0)).toNatClampNeg * 2147483648 ^ (nuK κ a0) = uV _ (nuK κ a0) * _
        rw [uV_e (fun j hj => al9 j (Nat.ne_of_lt hj)), at9]
        have e9 : x22_3.toInt32.toNatClampNeg = x22_3.toInt.toNat := by omega
        rw [e9, J22.1]
        congr 1
        exact uV_e (fun j hj => A3 j (by omega))
      refine Nu_trim_c W11 T12 c9 ?_ (fun κ_13 q14 => ?_)
      · exact B10  -- p4
      intro W15
      intro M16
      refine h _ ?_
      · exact ⟨Z10.tr q14.1.1, q14.2.1, by rw [q14.2.2.1]; exact V10⟩  -- q5
    · skip
      rw [lei, is, I3] at c7
      have lj := I0.1.2.2 x22_5.toNatClampNeg (by omega)
      have lj3 : zA κ_3 (zR κ_3 nuLimbs a0) x22_5.toNatClampNeg = zA κ (zR κ nuLimbs a0) x22_5.toNatClampNeg := A3 _ (by omega)
      have ljt : zA κ22 (zR κ_3 nuLimbs a0) x22_5.toNatClampNeg = zA κ (zR κ nuLimbs a0) x22_5.toNatClampNeg := (J22.2.2.2 _ (Nat.le_refl _)).trans lj3
      have kl := cnk lj
      have hl := ihi (zA κ (zR κ nuLimbs a0) x22_5.toNatClampNeg)
      have cb := J22.2.1
      have m1 : (zA κ (zR κ nuLimbs a0) x22_5.toNatClampNeg).toNatClampNeg * a1.toInt.toNat ≤ 2147483647 * 2147483648 := Nat.mul_le_mul (by omega) (by omega)
      refine ⟨?_, ?_⟩
      · rw [rs, ns, inb_iff]; omega  -- b6
      intro x17 hx17
      rw [rs, ljt] at hx17
      have e64 : ((zA κ (zR κ nuLimbs a0) x22_5.toNatClampNeg).toInt64).toInt = (zA κ (zR κ nuLimbs a0) x22_5.toNatClampNeg).toInt := Int32.toInt_toInt64 _
      have em : (zA κ (zR κ nuLimbs a0) x22_5.toNatClampNeg).toInt * a1.toInt = (((zA κ (zR κ nuLimbs a0) x22_5.toNatClampNeg).toNatClampNeg * a1.toInt.toNat : Nat) : Int) := by
        rw [Int.natCast_mul, kl]
        congr 1
        omega
      have et : ((zA κ (zR κ nuLimbs a0) x22_5.toNatClampNeg).toInt64 * a1).toInt = (((zA κ (zR κ nuLimbs a0) x22_5.toNatClampNeg).toNatClampNeg * a1.toInt.toNat : Nat) : Int) := by
        rw [jmul_i (by rw [e64, em]; omega) (by rw [e64, em]; omega), e64, em]
      have e17 : x17.toInt = (((zA κ (zR κ nuLimbs a0) x22_5.toNatClampNeg).toNatClampNeg * a1.toInt.toNat + x22_3.toInt.toNat : Nat) : Int) := by
        rw [hx17, jadd_i (by rw [et]; omega) (by rw [et]; omega), et]
        omega
      have f1 := (j_and (x := x17)).2
      have f2 := j_shr (x := x17) (by omega)
      have e5 := cn1 (x := x22_5) k22.1 (by omega)
      refine ⟨?_, ?_⟩
      · rw [rs, ns, inb_iff]; omega  -- b7
      intro κ_18 hκ_18
      intro W19
      intro x20 hx20
      intro x21 hx21
      refine ⟨_, ?_, rfl, ?_⟩
      · rw [hn22, hx21, e5.2]; omega  -- d8
      · rw [← hx20] at f2
        obtain ⟨u1, u2, u3⟩ := nu_u W22 T22_0 hκ_18
        rw [rs] at u2
        have s := tmI_s (x := (x17 &&& 2147483647).toInt32) J22 (by omega) (by rw [lj3, f1, e17]) u2
        rw [lj3] at s
        have ec : x20.toInt.toNat = ((zA κ (zR κ nuLimbs a0) x22_5.toNatClampNeg).toNatClampNeg * a1.toInt.toNat + x22_3.toInt.toNat) / 2147483648 := by omega
        rw [← ec] at s
        rw [hx21]
        exact ⟨rfl, rfl, E22.tr u1, by rw [e5.2]; omega, by omega, by rw [e5.1]; exact s⟩
  · skip
    refine h _ ?_
    · have e : a1 = 1 := (lg_cmp_eq _ _).mp c1
      refine ⟨zF.rf, I0, ?_⟩
      rw [e]
      show _ = _ * 1
      omega

end
section
set_option maxHeartbeats 1600000
/-! the class: Num's plus, minus -/
/-- limbs of a number with noughts behind them -/
def uP (κ : zS) (x : Nat) : Nat → Int32 := fun j => if j < nuK κ x then zA κ (zR κ nuLimbs x) j else 0
theorem uP_v {κ : zS} {x m : Nat} (h : nuK κ x ≤ m) : uV (uP κ x) m = nuN κ x := by
  have e := uV_pad (f := uP κ x) h (fun i h1 _ => if_neg (by omega))
  rw [e]
  exact uV_e (fun i hi => if_pos hi)
theorem uP_0 {κ : zS} {x c j : Nat} (B : nuB κ x c) : 0 ≤ (uP κ x j).toInt := by
  have k := nuK_i B
  by_cases h : j < nuK κ x
  · have e : uP κ x j = zA κ (zR κ nuLimbs x) j := if_pos h
    rw [e]; exact B.2.2 j (by omega)
  · have e : uP κ x j = 0 := if_neg h
    rw [e]; decide
/-- the last limb, then the length -/
theorem nu_fin {C : zC} {n0 x m c : Nat} {τ σ ρ : zS} {v mx : Int32} (W : zW C n0 τ) (T : zT τ x = 8) (e1 : σ = ua τ (zR τ nuLimbs x) m v) (e2 : ρ = ui σ nuLength x mx) (em : mx.toInt = m + 1) (hl : m + 1 ≤ (zN τ (zR τ nuLimbs x)) ∧ (zN τ (zR τ nuLimbs x)) ≤ c) (h2 : 2 ≤ (zN τ (zR τ nuLimbs x))) (hv : 0 ≤ v.toInt) (hX : ∀ j, j < m → 0 ≤ (zA τ (zR τ nuLimbs x) j).toInt) : zF (nuF x) τ ρ ∧ nuB ρ x c ∧ nuN ρ x = uV (zA τ (zR τ nuLimbs x)) m + v.toNatClampNeg * 2147483648 ^ m := by
  obtain ⟨u1, u2, u3⟩ := nu_u W T e1
  have km := cnk (x := mx) (by omega)
  have R : zR ρ = zR τ := by rw [e2]; exact u1.2.1
  have N : zN ρ = zN τ := by rw [e2]; exact u1.2.2.2
  have A : zA ρ = zA σ := by rw [e2]; rfl
  have I : zI ρ nuLength x = mx := by rw [e2]; exact if_pos ⟨rfl, rfl⟩
  have am : zA σ (zR τ nuLimbs x) m = v := by rw [u2]; exact if_pos rfl
  have al : ∀ j, j ≠ m → zA σ (zR τ nuLimbs x) j = zA τ (zR τ nuLimbs x) j := fun j hj => by rw [u2]; exact if_neg hj
  refine ⟨u1.1.tr (by rw [e2]; exact zF_ui ⟨rfl, Or.inr rfl⟩), ⟨?_, ?_, fun i hi => ?_⟩, ?_⟩
  · rw [R, N, I]; omega
  · rw [R, N]; omega
  · rw [I] at hi
    rw [R, A]
    by_cases z : i = m
    · rw [z, am]; exact hv
    · rw [al i z]; exact hX i (by omega)
  · have ek : mx.toNatClampNeg = m + 1 := by omega
    unfold nuN
    rw [I, R, A, ek]
    show uV _ m + (zA σ (zR τ nuLimbs x) m).toNatClampNeg * _ = _
    rw [uV_e (fun j hj => al j (Nat.ne_of_lt hj)), am]
/-- a sum, limb by limb -/
def adI (L M X : Nat → Int32) (m i c : Nat) : Prop := uV X i + c * 2147483648 ^ i = uV L i + uV M i ∧ c ≤ 1 ∧ (∀ j, j < i → 0 ≤ (X j).toInt) ∧ ∀ j, i ≤ j → j < m → X j = L j
theorem ar31p {p D S R c x y v : Nat} (h : D + c * p = S + R) (hv : v = x + y + c) : D + v % 2147483648 * p + v / 2147483648 * (2147483648 * p) = S + x * p + (R + y * p) := by
  have m := Nat.div_add_mod v 2147483648
  have e : (2147483648 * (v / 2147483648) + v % 2147483648) * p = (x + y + c) * p := by rw [m, hv]
  rw [Nat.add_mul, Nat.add_mul, Nat.add_mul] at e
  have f : v / 2147483648 * (2147483648 * p) = 2147483648 * (v / 2147483648) * p := by
    rw [← Nat.mul_assoc, Nat.mul_comm (v / 2147483648) 2147483648]
  omega
theorem adI_s {L M X X' : Nat → Int32} {m i c : Nat} {x : Int32} (h : adI L M X m i c) (ex : x.toInt = (((L i).toNatClampNeg + (M i).toNatClampNeg + c : Nat) : Int) % 2147483648) (e : X' = upd X i x) : adI L M X' m (i + 1) (((L i).toNatClampNeg + (M i).toNatClampNeg + c) / 2147483648) := by
  obtain ⟨h1, h2, h3, h4⟩ := h
  have l := lim31 (L i)
  have l2 := lim31 (M i)
  have kx := cnk (x := x) (by omega)
  have mi : X' i = x := by rw [e]; exact if_pos rfl
  have mj : ∀ j, j ≠ i → X' j = X j := fun j hj => by rw [e]; exact if_neg hj
  refine ⟨?_, by omega, fun j hj => ?_, fun j hj hm => ?_⟩
  · show uV X' i + (X' i).toNatClampNeg * 2147483648 ^ i + _ = (uV L i + (L i).toNatClampNeg * 2147483648 ^ i) + (uV M i + (M i).toNatClampNeg * 2147483648 ^ i)
    rw [uV_e (g := X) (fun j hj => mj j (Nat.ne_of_lt hj)), mi, p31_s]
    have e9 : x.toNatClampNeg = ((L i).toNatClampNeg + (M i).toNatClampNeg + c) % 2147483648 := by omega
    rw [e9]
    exact ar31p h1 rfl
  · by_cases z : j = i
    · rw [z, mi]; omega
    · rw [mj j z]; exact h3 j (by omega)
  · rw [mj j (by omega)]; exact h4 j (by omega) hm
theorem Nu_plus_c {C : zC} {n0 : Nat} {a0 : Nat} {a1 : Nat} {κ : zS} {Q : zS → Prop} (W : zW C n0 κ) (Ta0 : zT κ a0 = 8) (Ta1 : zT κ a1 = 8) (c9 d9 : Nat) (hp : nuI κ a0 c9 ∧ nuI κ a1 d9 ∧ a0 ≠ a1 ∧ (nuK κ a0 + 1 + (nuK κ a0 + 1) / 2 + 1 ≤ c9 ∧ nuK κ a1 + 1 + (nuK κ a1 + 1) / 2 + 1 ≤ c9) ∧ c9 ≤ 30000000) (h : ∀ (κ' : zS), (zF (nuF a0) κ κ' ∧ nuI κ' a0 c9 ∧ nuN κ' a0 = nuN κ a0 + nuN κ a1) → Q κ') : zRun C 3 mNu_plus [.ref a0, .ref a1] κ (oV Q noX) := by
  refine Nu_plus_run W Ta0 Ta1 ?_
  replace W := W.lo (Nat.le_trans W.1.2.1 W.1.2.2) (Nat.le_refl (zn κ))
  unfold w_Nu_plus_0
  obtain ⟨I0, I1, ne, ⟨p1, p2⟩, p3⟩ := hp
  have k0 := nuK_i I0.1
  have k1 := nuK_i I1.1
  have kd0 : nuK κ a0 = (zI κ nuLength a0).toNatClampNeg := rfl
  have kd1 : nuK κ a1 = (zI κ nuLength a1).toNatClampNeg := rfl
  have lb := I0.1.1
  have lr := I0.1.2.1
  have nF : ∀ f, ¬ nuF a0 f a1 := fun f z => ne z.1.symm
  intro x1 hx1
  intro T2
  have ex : x1.toInt = (nuK κ a0 : Int) ∧ nuK κ a1 ≤ nuK κ a0 ∨ x1.toInt = (nuK κ a1 : Int) ∧ nuK κ a0 < nuK κ a1 := by
    rw [hx1]
    by_cases z : zI κ nuLength a0 < zI κ nuLength a1
    · rw [if_pos z]
      rw [lti] at z
      right; omega
    · rw [if_neg z]
      rw [lti] at z
      left; omega
  have e1 := cn1 (x := x1) (by omega) (by omega)
  have kx1 := cnk (x := x1) (by omega)
  refine Nu_widen_c W T2  ?_ (fun κ_3 q4 => ?_)
  · exact ⟨by rw [e1.2]; omega, lr.1⟩  -- p1
  obtain ⟨F3, I3, R3, L3, A3⟩ := q4
  have T3 : zT κ_3 a0 = 8 := F3.t Ta0 (by decide)
  rw [e1.2] at L3
  intro W5
  intro M6
  intro T7
  refine Ar_fill4_c W5 T7  ?_ (fun κ_8 q9 => ?_)
  · rw [I3]
    exact ⟨by rw [lei, t0i]; omega, by rw [lei, e1.2]; omega, by rw [e1.1]; omega⟩
  rw [I3, e1.1] at q9
  have R8 : zR κ_8 = zR κ_3 := by rw [q9]; rfl
  have I8 : zI κ_8 = zI κ := by rw [q9]; exact I3
  have N8 : zN κ_8 = zN κ_3 := by rw [q9]; rfl
  have ow := W5.o (show zr nuLimbs = some 20 by decide +kernel) (by decide) T3
  have Z8 : zF (nuF a0) κ κ_8 := F3.tr (by rw [q9]; exact zF_uf (by rw [ow]; exact ⟨rfl, Or.inl rfl⟩))
  have A8 : ∀ j, j < x1.toInt.toNat + 1 → zA κ_8 (zR κ_3 nuLimbs a0) j = uP κ a0 j := fun j hj => by
    rw [q9]
    refine (congrFun (if_pos rfl) j).trans ?_
    show (if (zI κ nuLength a0).toNatClampNeg ≤ j ∧ j < _ then (0 : Int32) else _) = if j < nuK κ a0 then _ else 0
    by_cases z : j < nuK κ a0
    · rw [if_neg (by omega), if_pos z]
      exact A3 j (by omega)
    · rw [if_pos (by omega), if_neg z]
  intro W10
  intro M11
  unfold w_Nu_plus_39
  refine ⟨fun n l0 l1 l2 l3 l4 τ => n = (l2.toInt - l4.toInt).toNat ∧ (a0 = l0 ∧ a1 = l1 ∧ nuE κ_8 τ a0 ∧ x1 = l2 ∧ (0 ≤ l4.toInt ∧ l4.toInt ≤ x1.toInt) ∧ 0 ≤ l3.toInt ∧ adI (uP κ a0) (uP κ a1) (zA τ (zR κ_3 nuLimbs a0)) (x1.toInt.toNat + 1) l4.toNatClampNeg l3.toInt.toNat), ⟨_, rfl, ?_⟩, ?_⟩
  · exact ⟨rfl, rfl, nuE.rf, rfl, ⟨by decide, by rw [t0i]; omega⟩, by decide, by
      show 0 + 0 * _ = 0 + 0
      omega, by decide, fun j hj => absurd hj (Nat.not_lt_zero _), fun j _ hj => A8 j hj⟩
  rintro n39 _ _ x39_2 x39_3 x39_4 κ39 W39 T39_0 T39_1 ⟨hn39, rfl, rfl, i39⟩
  obtain ⟨E39, rfl, k39, c39, J39⟩ := i39
  have rs : zR κ39 = zR κ_3 := E39.2.1.trans R8
  have is : zI κ39 = zI κ := E39.2.2.1.trans I8
  have ns : zN κ39 = zN κ_3 := E39.2.2.2.trans N8
  have Z39 := Z8.tr E39.1
  have u39 := nu_z W Ta1 Z39 (nF nuLimbs) (nF nuLength)
  have kn := cnk k39.1
  have hj73 : ∀ (l0 : Nat) (l1 : Nat) (l2 : Int32) (l3 : Int32) (l4 : Int32) (s0 : Int64) (s1 : Int32) (τ : zS), zW C (zn κ) τ → zT τ l0 = 8 → zT τ l1 = 8 → (a0 = l0 ∧ a1 = l1 ∧ κ39 = τ ∧ (x1 = l2 ∧ x39_3 = l3 ∧ x39_4 = l4) ∧ x39_4.toInt < x1.toInt ∧ s0 = (zA κ39 (zR κ39 nuLimbs a0) x39_4.toNatClampNeg).toInt64 ∧ s1 = uP κ a1 x39_4.toNatClampNeg) → w_Nu_plus_73 C (zn κ) Q (fun (l0' : Nat) (l1' : Nat) (l2' : Int32) (l3' : Int32) (l4' : Int32) (τ : zS) => ∃ k < n39, (fun (n : Nat) (l0 : Nat) (l1 : Nat) (l2 : Int32) (l3 : Int32) (l4 : Int32) (τ : zS) => n = (l2.toInt - l4.toInt).toNat ∧ (a0 = l0 ∧ a1 = l1 ∧ nuE κ_8 τ a0 ∧ x1 = l2 ∧ (0 ≤ l4.toInt ∧ l4.toInt ≤ x1.toInt) ∧ 0 ≤ l3.toInt ∧ adI (uP κ a0) (uP κ a1) (zA τ (zR κ_3 nuLimbs a0)) (x1.toInt.toNat + 1) l4.toNatClampNeg l3.toInt.toNat)) k l0' l1' l2' l3' l4' τ) l0 l1 l2 l3 l4 s0 s1 τ := by
    rintro _ _ y73_2 y73_3 y73_4 y73_s0 y73_s1 τ73 W73 T73_0 T73_1 ⟨rfl, rfl, j73⟩
    unfold w_Nu_plus_73
    intro x12 hx12
    obtain ⟨rfl, ⟨rfl, rfl, rfl⟩, l73, e73, f73⟩ := j73
    have jx := J39.2.2.2 x39_4.toNatClampNeg (Nat.le_refl _) (by omega)
    rw [rs, jx] at e73
    have g1 := uP_0 (j := x39_4.toNatClampNeg) I0.1
    have g2 := uP_0 (j := x39_4.toNatClampNeg) I1.1
    have h1 := ihi (uP κ a0 x39_4.toNatClampNeg)
    have h2 := ihi (uP κ a1 x39_4.toNatClampNeg)
    have kg1 := cnk g1
    have kg2 := cnk g2
    have cb := J39.2.1
    have b1 : (uP κ a0 x39_4.toNatClampNeg).toInt64.toInt = (uP κ a0 x39_4.toNatClampNeg).toInt := Int32.toInt_toInt64 _
    have b2 : (uP κ a1 x39_4.toNatClampNeg).toInt64.toInt = (uP κ a1 x39_4.toNatClampNeg).toInt := Int32.toInt_toInt64 _
    have b3 : x39_3.toInt64.toInt = x39_3.toInt := Int32.toInt_toInt64 _
    have t1 : ((uP κ a0 x39_4.toNatClampNeg).toInt64 + (uP κ a1 x39_4.toNatClampNeg).toInt64).toInt = (uP κ a0 x39_4.toNatClampNeg).toInt + (uP κ a1 x39_4.toNatClampNeg).toInt := by
      rw [jadd_i (by rw [b1, b2]; omega) (by rw [b1, b2]; omega), b1, b2]
    rw [e73, f73] at hx12
    have t2 : x12.toInt = (((uP κ a0 x39_4.toNatClampNeg).toNatClampNeg + (uP κ a1 x39_4.toNatClampNeg).toNatClampNeg + x39_3.toInt.toNat : Nat) : Int) := by
      rw [hx12, jadd_i (by rw [t1, b3]; omega) (by rw [t1, b3]; omega), t1, b3]
      omega
    have f1 := (j_and (x := x12)).2
    have f2 := j_shr (x := x12) (by omega)
    have f3 := j_i32 (x := (x12.toUInt64 >>> ((31 : Int32).toInt64.toUInt64 &&& Int64.toUInt64 63)).toInt64) (by rw [f2]; omega) (by rw [f2]; omega)
    have e5 := cn1 (x := x39_4) k39.1 (by omega)
    refine ⟨?_, ?_⟩
    · rw [rs, ns, inb_iff]; omega  -- b4
    intro κ_13 hκ_13
    intro W14
    intro x15 hx15
    intro x16 hx16
    refine ⟨_, ?_, rfl, ?_⟩
    · rw [hn39, hx16, e5.2]; omega  -- d5
    · rw [f2, ← hx15] at f3
      obtain ⟨u1, u2, u3⟩ := nu_u W39 T39_0 hκ_13
      rw [rs] at u2
      have s := adI_s (x := (x12 &&& 2147483647).toInt32) J39 (by rw [f1, t2]) u2
      have ec : x15.toInt.toNat = ((uP κ a0 x39_4.toNatClampNeg).toNatClampNeg + (uP κ a1 x39_4.toNatClampNeg).toNatClampNeg + x39_3.toInt.toNat) / 2147483648 := by omega
      rw [← ec] at s
      rw [hx16]
      exact ⟨rfl, rfl, E39.tr u1, rfl, by rw [e5.2]; omega, by omega, by rw [e5.1]; exact s⟩
  refine ⟨fun c17 => ?_, fun c17 => ?_⟩
  · skip
    refine ⟨?_, ?_⟩
    · rw [rs, ns, inb_iff]; omega  -- b7
    intro κ_18 hκ_18
    intro W19
    intro κ_20 hκ_20
    intro W21
    intro T22
    rw [lei] at c17
    have kk : x39_4.toNatClampNeg = x1.toInt.toNat := by omega
    rw [kk] at J39
    have kx1' : x1.toNatClampNeg = x1.toInt.toNat := by omega
    rw [kx1'] at hκ_18
    have fin := nu_fin (c := c9) W39 T39_0 hκ_18 hκ_20 (by rw [e1.2]; omega) (by rw [rs, ns]; omega) (by rw [rs, ns]; omega) c39 (fun j hj => by rw [rs]; exact J39.2.2.1 j hj)
    refine Nu_trim_c W21 T22 c9 ?_ (fun κ_23 q24 => ?_)
    · exact fin.2.1  -- p8
    intro W25
    intro M26
    refine h _ ?_
    · refine ⟨(Z39.tr fin.1).tr q24.1.1, q24.2.1, ?_⟩
      rw [q24.2.2.1, fin.2.2, rs]
      have e9 : x39_3.toNatClampNeg = x39_3.toInt.toNat := by
        have := cnk c39
        omega
      rw [e9, J39.1, uP_v (by omega), uP_v (by omega)]
  · skip
    rw [lei] at c17
    refine ⟨?_, ?_⟩
    · rw [rs, ns, inb_iff]; omega  -- b10
    refine ⟨fun c27 => ?_, fun c27 => ?_⟩
    · skip
      refine hj73 _ _ _ _ _ _ _ _ W39 ?_ ?_ ?_
      · exact T39_0  -- t11
      · exact T39_1  -- t12
      · rw [is, lei] at c27
        exact ⟨rfl, rfl, rfl, ⟨rfl, rfl, rfl⟩, by omega, rfl, (if_neg (by omega)).symm⟩
    · skip
      rw [is, lei] at c27
      have lb1 := I1.1.1
      refine ⟨?_, ?_⟩
      · rw [u39.2.1, u39.2.2.2, inb_iff]; omega  -- b14
      refine hj73 _ _ _ _ _ _ _ _ W39 ?_ ?_ ?_
      · exact T39_0  -- t15
      · exact T39_1  -- t16
      · refine ⟨rfl, rfl, rfl, ⟨rfl, rfl, rfl⟩, by omega, rfl, ?_⟩
        rw [u39.2.1, u39.2.2.1]
        exact (if_pos (by omega)).symm

/-- a difference, limb by limb -/
def suI (L M X : Nat → Int32) (m i b : Nat) : Prop := uV X i + uV M i = uV L i + b * 2147483648 ^ i ∧ b ≤ 1 ∧ (∀ j, j < i → 0 ≤ (X j).toInt) ∧ ∀ j, i ≤ j → j < m → X j = L j
theorem ar31m {p D S R b x y z w : Nat} (h : D + R = S + b * p) (hz : z + y + b = x + w * 2147483648) : D + z * p + (R + y * p) = S + x * p + w * (2147483648 * p) := by
  have e : (z + y + b) * p = (x + w * 2147483648) * p := by rw [hz]
  rw [Nat.add_mul, Nat.add_mul, Nat.add_mul, Nat.mul_assoc] at e
  omega
theorem suI_s {L M X X' : Nat → Int32} {m i b w : Nat} {x : Int32} (h : suI L M X m i b) (hx : 0 ≤ x.toInt) (hw : w ≤ 1) (ex : x.toNatClampNeg + (M i).toNatClampNeg + b = (L i).toNatClampNeg + w * 2147483648) (e : X' = upd X i x) : suI L M X' m (i + 1) w := by
  obtain ⟨h1, h2, h3, h4⟩ := h
  have mi : X' i = x := by rw [e]; exact if_pos rfl
  have mj : ∀ j, j ≠ i → X' j = X j := fun j hj => by rw [e]; exact if_neg hj
  refine ⟨?_, hw, fun j hj => ?_, fun j hj hm => ?_⟩
  · show uV X' i + (X' i).toNatClampNeg * 2147483648 ^ i + (uV M i + (M i).toNatClampNeg * 2147483648 ^ i) = (uV L i + (L i).toNatClampNeg * 2147483648 ^ i) + _
    rw [uV_e (g := X) (fun j hj => mj j (Nat.ne_of_lt hj)), mi, p31_s]
    exact ar31m h1 ex
  · by_cases z : j = i
    · rw [z, mi]; exact hx
    · rw [mj j z]; exact h3 j (by omega)
  · rw [mj j (by omega)]; exact h4 j (by omega) hm
theorem Nu_minus_c {C : zC} {n0 : Nat} {a0 : Nat} {a1 : Nat} {κ : zS} {Q : zS → Prop} (W : zW C n0 κ) (Ta0 : zT κ a0 = 8) (Ta1 : zT κ a1 = 8) (c9 d9 : Nat) (hp : nuI κ a0 c9 ∧ nuI κ a1 d9 ∧ a0 ≠ a1 ∧ nuN κ a1 ≤ nuN κ a0) (h : ∀ (κ' : zS), (zF (nuF a0) κ κ' ∧ nuI κ' a0 c9 ∧ nuN κ' a0 = nuN κ a0 - nuN κ a1) → Q κ') : zRun C 1 mNu_minus [.ref a0, .ref a1] κ (oV Q noX) := by
  refine Nu_minus_run W Ta0 Ta1 ?_
  replace W := W.lo (Nat.le_trans W.1.2.1 W.1.2.2) (Nat.le_refl (zn κ))
  unfold w_Nu_minus_0
  obtain ⟨I0, I1, ne, p1⟩ := hp
  have k0 := nuK_i I0.1
  have k1 := nuK_i I1.1
  have kd1 : nuK κ a1 = (zI κ nuLength a1).toNatClampNeg := rfl
  have lb := I0.1.1
  have lb1 := I1.1.1
  have lr := I0.1.2.1
  have kl : nuK κ a1 ≤ nuK κ a0 := nuK_le (d := 0) I1 p1
  have hl := ihi (zI κ nuLength a0)
  have nF : ∀ f, ¬ nuF a0 f a1 := fun f z => ne z.1.symm
  unfold w_Nu_minus_4
  refine ⟨fun n l0 l1 l2 l3 τ => n = ((zI κ nuLength a0).toInt - l3.toInt).toNat ∧ (a0 = l0 ∧ a1 = l1 ∧ nuE κ τ a0 ∧ (0 ≤ l3.toInt ∧ l3.toInt ≤ (zI κ nuLength a0).toInt) ∧ 0 ≤ l2.toInt ∧ suI (zA κ (zR κ nuLimbs a0)) (uP κ a1) (zA τ (zR κ nuLimbs a0)) (nuK κ a0) l3.toNatClampNeg l2.toInt.toNat), ⟨_, rfl, ?_⟩, ?_⟩
  · exact ⟨rfl, rfl, nuE.rf, ⟨by decide, by rw [t0i]; omega⟩, by decide, by
      show 0 + 0 = 0 + 0 * _
      omega, by decide, fun j hj => absurd hj (Nat.not_lt_zero _), fun _ _ _ => rfl⟩
  rintro n4 _ _ x4_2 x4_3 κ4 W4 T4_0 T4_1 ⟨hn4, rfl, rfl, i4⟩
  obtain ⟨E4, k4, c4, J4⟩ := i4
  have rs := E4.2.1
  have is := E4.2.2.1
  have ns := E4.2.2.2
  have u4 := nu_z W Ta1 E4.1 (nF nuLimbs) (nF nuLength)
  have kn := cnk k4.1
  have hj51 : ∀ (l0 : Nat) (l1 : Nat) (l3 : Int32) (l4 : Int32) (s0 : Int32) (τ : zS), zW C (zn κ) τ → zT τ l0 = 8 → zT τ l1 = 8 → (a0 = l0 ∧ a1 = l1 ∧ κ4 = τ ∧ x4_3 = l3 ∧ x4_3.toInt < (zI κ nuLength a0).toInt ∧ l4.toInt = (zA κ (zR κ nuLimbs a0) x4_3.toNatClampNeg).toInt - (uP κ a1 x4_3.toNatClampNeg).toInt - x4_2.toInt ∧ (s0.toInt = 0 ∧ 0 ≤ l4.toInt ∨ s0.toInt = 1 ∧ l4.toInt < 0)) → w_Nu_minus_51 C (zn κ) Q (fun (l0' : Nat) (l1' : Nat) (l2' : Int32) (l3' : Int32) (τ : zS) => ∃ k < n4, (fun (n : Nat) (l0 : Nat) (l1 : Nat) (l2 : Int32) (l3 : Int32) (τ : zS) => n = ((zI κ nuLength a0).toInt - l3.toInt).toNat ∧ (a0 = l0 ∧ a1 = l1 ∧ nuE κ τ a0 ∧ (0 ≤ l3.toInt ∧ l3.toInt ≤ (zI κ nuLength a0).toInt) ∧ 0 ≤ l2.toInt ∧ suI (zA κ (zR κ nuLimbs a0)) (uP κ a1) (zA τ (zR κ nuLimbs a0)) (nuK κ a0) l3.toNatClampNeg l2.toInt.toNat)) k l0' l1' l2' l3' τ) l0 l1 l3 l4 s0 τ := by
    rintro _ _ y51_3 y51_4 y51_s0 τ51 W51 T51_0 T51_1 ⟨rfl, rfl, j51⟩
    unfold w_Nu_minus_51
    obtain ⟨rfl, rfl, l51, e51, s51⟩ := j51
    have e5 := cn1 (x := x4_3) k4.1 (by omega)
    refine ⟨?_, ?_⟩
    · rw [rs, ns, inb_iff]; omega  -- b2
    intro κ_1 hκ_1
    intro W2
    intro x3 hx3
    refine ⟨_, ?_, rfl, ?_⟩
    · rw [hn4, hx3, e5.2]; omega  -- d3
    · obtain ⟨u1, u2, u3⟩ := nu_u W4 T4_0 hκ_1
      rw [rs] at u2
      have g1 := I0.1.2.2 x4_3.toNatClampNeg (by omega)
      have g2 := uP_0 (j := x4_3.toNatClampNeg) I1.1
      have h1 := ihi (zA κ (zR κ nuLimbs a0) x4_3.toNatClampNeg)
      have h2 := ihi (uP κ a1 x4_3.toNatClampNeg)
      have kg1 := cnk g1
      have kg2 := cnk g2
      have cb := J4.2.1
      have f1 := i_and (x := y51_4)
      have kf := cnk (x := y51_4 &&& 2147483647) (by omega)
      have s := suI_s (x := y51_4 &&& 2147483647) (w := y51_s0.toInt.toNat) J4 (by omega) (by omega) (by omega) u2
      rw [hx3]
      exact ⟨rfl, rfl, E4.tr u1, by rw [e5.2]; omega, by omega, by rw [e5.1]; exact s⟩
  have hj36 : ∀ (l0 : Nat) (l1 : Nat) (l2 : Int32) (l3 : Int32) (s0 : Int32) (s1 : Int32) (τ : zS), zW C (zn κ) τ → zT τ l0 = 8 → zT τ l1 = 8 → (a0 = l0 ∧ a1 = l1 ∧ κ4 = τ ∧ (x4_2 = l2 ∧ x4_3 = l3) ∧ x4_3.toInt < (zI κ nuLength a0).toInt ∧ s0 = zA κ (zR κ nuLimbs a0) x4_3.toNatClampNeg ∧ s1 = uP κ a1 x4_3.toNatClampNeg) → w_Nu_minus_36 C (zn κ) Q (fun (l0' : Nat) (l1' : Nat) (l2' : Int32) (l3' : Int32) (τ : zS) => ∃ k < n4, (fun (n : Nat) (l0 : Nat) (l1 : Nat) (l2 : Int32) (l3 : Int32) (τ : zS) => n = ((zI κ nuLength a0).toInt - l3.toInt).toNat ∧ (a0 = l0 ∧ a1 = l1 ∧ nuE κ τ a0 ∧ (0 ≤ l3.toInt ∧ l3.toInt ≤ (zI κ nuLength a0).toInt) ∧ 0 ≤ l2.toInt ∧ suI (zA κ (zR κ nuLimbs a0)) (uP κ a1) (zA τ (zR κ nuLimbs a0)) (nuK κ a0) l3.toNatClampNeg l2.toInt.toNat)) k l0' l1' l2' l3' τ) l0 l1 l2 l3 s0 s1 τ := by
    rintro _ _ y36_2 y36_3 y36_s0 y36_s1 τ36 W36 T36_0 T36_1 ⟨rfl, rfl, j36⟩
    unfold w_Nu_minus_36
    intro x4 hx4
    obtain ⟨rfl, ⟨rfl, rfl⟩, l36, e36, f36⟩ := j36
    have g1 := I0.1.2.2 x4_3.toNatClampNeg (by omega)
    have g2 := uP_0 (j := x4_3.toNatClampNeg) I1.1
    have h1 := ihi (zA κ (zR κ nuLimbs a0) x4_3.toNatClampNeg)
    have h2 := ihi (uP κ a1 x4_3.toNatClampNeg)
    have cb := J4.2.1
    have t1 : (zA κ (zR κ nuLimbs a0) x4_3.toNatClampNeg - uP κ a1 x4_3.toNatClampNeg).toInt = (zA κ (zR κ nuLimbs a0) x4_3.toNatClampNeg).toInt - (uP κ a1 x4_3.toNatClampNeg).toInt := sub_i (by omega) (by omega)
    have t2 : x4.toInt = (zA κ (zR κ nuLimbs a0) x4_3.toNatClampNeg).toInt - (uP κ a1 x4_3.toNatClampNeg).toInt - x4_2.toInt := by
      rw [hx4, e36, f36, sub_i (by rw [t1]; omega) (by rw [t1]; omega), t1]
    refine ⟨fun c5 => ?_, fun c5 => ?_⟩
    · skip
      refine hj51 _ _ _ _ _ _ W36 ?_ ?_ ?_
      · exact T36_0  -- t5
      · exact T36_1  -- t6
      · rw [lei, t0i] at c5
        exact ⟨rfl, rfl, rfl, rfl, l36, t2, Or.inl ⟨rfl, c5⟩⟩
    · skip
      refine hj51 _ _ _ _ _ _ W36 ?_ ?_ ?_
      · exact T36_0  -- t8
      · exact T36_1  -- t9
      · rw [lei, t0i] at c5
        exact ⟨rfl, rfl, rfl, rfl, l36, t2, Or.inr ⟨rfl, by omega⟩⟩
  have fin : (zI κ nuLength a0).toInt ≤ x4_3.toInt → nuB κ4 a0 c9 ∧ nuN κ4 a0 = nuN κ a0 - nuN κ a1 := fun c6 => by
    have kk : x4_3.toNatClampNeg = nuK κ a0 := by omega
    rw [kk] at J4
    have V4 : nuN κ4 a0 = uV (zA κ4 (zR κ nuLimbs a0)) (nuK κ a0) := by
      unfold nuN nuK
      rw [is, rs]
    have V0 : nuN κ a0 = uV (zA κ (zR κ nuLimbs a0)) (nuK κ a0) := rfl
    have jv := J4.1
    have jb := J4.2.1
    rw [← V4, ← V0, uP_v kl] at jv
    have jl : nuN κ4 a0 < 2147483648 ^ nuK κ a0 := by rw [V4]; exact uV_lt
    refine ⟨⟨?_, ?_, fun i hi => ?_⟩, ?_⟩
    · rw [rs, ns, is]; exact lb
    · rw [rs, ns]; exact lr
    · rw [is] at hi
      rw [rs]
      exact J4.2.2.1 i (by omega)
    · have y : x4_2.toInt.toNat = 0 ∨ x4_2.toInt.toNat = 1 := by omega
      rcases y with y | y <;> rw [y] at jv <;> omega
  refine ⟨fun c6 => ?_, fun c6 => ?_⟩
  · skip
    intro T7
    refine Nu_trim_c W4 T7 c9 ?_ (fun κ_8 q9 => ?_)
    · rw [is, lei] at c6
      exact (fin c6).1
    intro W10
    intro M11
    refine h _ ?_
    · rw [is, lei] at c6
      exact ⟨E4.1.tr q9.1.1, q9.2.1, by rw [q9.2.2.1]; exact (fin c6).2⟩
  · skip
    rw [is, lei] at c6
    refine ⟨?_, ?_⟩
    · rw [rs, ns, inb_iff]; omega  -- b13
    refine ⟨fun c12 => ?_, fun c12 => ?_⟩
    · skip
      refine hj36 _ _ _ _ _ _ _ W4 ?_ ?_ ?_
      · exact T4_0  -- t14
      · exact T4_1  -- t15
      · rw [is, lei] at c12
        refine ⟨rfl, rfl, rfl, ⟨rfl, rfl⟩, by omega, ?_, (if_neg (by omega)).symm⟩
        rw [rs]; exact J4.2.2.2 _ (Nat.le_refl _) (by omega)
    · skip
      rw [is, lei] at c12
      refine ⟨?_, ?_⟩
      · rw [u4.2.1, u4.2.2.2, inb_iff]; omega  -- b17
      refine hj36 _ _ _ _ _ _ _ W4 ?_ ?_ ?_
      · exact T4_0  -- t18
      · exact T4_1  -- t19
      · refine ⟨rfl, rfl, rfl, ⟨rfl, rfl⟩, by omega, ?_, ?_⟩
        · rw [rs]; exact J4.2.2.2 _ (Nat.le_refl _) (by omega)
        · rw [u4.2.1, u4.2.2.1]
          exact (if_pos (by omega)).symm

end
section
set_option maxHeartbeats 1600000
/-! the class: Num's rest, over, product -/
theorem jdiv_i {x y : Int64} (h0 : 0 ≤ x.toInt) (hy : 0 < y.toInt) : (x / y).toInt = x.toInt / y.toInt := by
  have a1 : x.toInt / y.toInt ≤ x.toInt := Int.ediv_le_self _ h0
  have a2 : 0 ≤ x.toInt / y.toInt := Int.ediv_nonneg h0 (by omega)
  have a3 := Int64.toInt_lt x
  rw [Int64.toInt_div, Int.tdiv_eq_ediv_of_nonneg h0]
  exact Int.bmod_eq_of_le (by omega) (by omega)
theorem jmod_i {x y : Int64} (h0 : 0 ≤ x.toInt) (hy : 0 < y.toInt) : (x - x / y * y).toInt = x.toInt % y.toInt := by
  have d := jdiv_i h0 hy
  have m : x.toInt / y.toInt * y.toInt ≤ x.toInt := Int.ediv_mul_le _ (by omega)
  have p : 0 ≤ x.toInt / y.toInt * y.toInt := Int.mul_nonneg (Int.ediv_nonneg h0 (by omega)) (by omega)
  have l := Int64.toInt_lt x
  have e : (x / y * y).toInt = x.toInt / y.toInt * y.toInt := by rw [jmul_i (by rw [d]; omega) (by rw [d]; omega), d]
  rw [jsub_i (by rw [e]; omega) (by rw [e]; omega), e, Int.emod_def, Int.mul_comm]
theorem hn_s {L : Nat → Int32} {i h : Nat} : uV L (i + 1) + h * 2147483648 ^ (i + 1) = uV L i + ((L i).toNatClampNeg + h * 2147483648) * 2147483648 ^ i := by
  show uV L i + (L i).toNatClampNeg * 2147483648 ^ i + _ = _
  rw [p31_s, Nat.add_mul, Nat.mul_assoc]
  omega
theorem hn_m {h b l : Nat} : (h % b * 2147483648 + l) % b = (l + h * 2147483648) % b := by
  rw [Nat.add_mod, Nat.mul_mod, Nat.mod_mod, ← Nat.mul_mod, ← Nat.add_mod, Nat.add_comm]
theorem hn_d {h b l : Nat} (hb : 0 < b) : (l + h * 2147483648) / b = h / b * 2147483648 + (h % b * 2147483648 + l) / b := by
  have m := Nat.div_add_mod h b
  have e : l + h * 2147483648 = (h % b * 2147483648 + l) + b * (h / b * 2147483648) := by
    have e2 : h * 2147483648 = (b * (h / b) + h % b) * 2147483648 := by rw [m]
    rw [Nat.add_mul, Nat.mul_assoc] at e2
    omega
  rw [e, Nat.add_mul_div_left _ _ hb, Nat.add_comm]
theorem hn_b {r b l : Nat} (hr : r < b) (hl : l < 2147483648) : (r * 2147483648 + l) / b < 2147483648 := by
  rw [Nat.div_lt_iff_lt_mul (by omega)]
  have := Nat.mul_le_mul_right 2147483648 hr
  omega
theorem uV_u {f : Nat → Int32} {i : Nat} {v : Int32} : ∀ {n : Nat}, i < n → uV (upd f i v) n + (f i).toNatClampNeg * 2147483648 ^ i = uV f n + v.toNatClampNeg * 2147483648 ^ i
  | 0, h => absurd h (Nat.not_lt_zero _)
  | n + 1, h => by
    show uV (upd f i v) n + (upd f i v n).toNatClampNeg * 2147483648 ^ n + _ = uV f n + (f n).toNatClampNeg * 2147483648 ^ n + _
    by_cases z : i = n
    · have e : upd f i v n = v := if_pos z.symm
      have e2 : uV (upd f i v) n = uV f n := uV_e (fun j hj => if_neg (by omega))
      rw [e, e2, z]
      omega
    · have e : upd f i v n = f n := if_neg (fun y => z y.symm)
      have := uV_u (f := f) (v := v) (n := n) (show i < n by omega)
      rw [e]
      omega
/-- a rest, from the top -/
def hrI (L : Nat → Int32) (K b i left : Nat) : Prop := i ≤ K ∧ ∃ h, uV L K = uV L i + h * 2147483648 ^ i ∧ left = h % b
theorem hrI_0 {L : Nat → Int32} {K b : Nat} : hrI L K b K 0 := ⟨Nat.le_refl _, 0, by omega, (Nat.zero_mod _).symm⟩
theorem hrI_s {L : Nat → Int32} {K b i left : Nat} (h : hrI L K b (i + 1) left) : hrI L K b i ((left * 2147483648 + (L i).toNatClampNeg) % b) := by
  obtain ⟨h1, q, h2, h3⟩ := h
  refine ⟨by omega, (L i).toNatClampNeg + q * 2147483648, by rw [h2, hn_s], ?_⟩
  rw [h3, hn_m]
/-- a quotient in place, from the top -/
def hnI (L X : Nat → Int32) (K b i left : Nat) : Prop := i ≤ K ∧ ∃ h, uV L K = uV L i + h * 2147483648 ^ i ∧ left = h % b ∧ uV X K = uV L i + h / b * 2147483648 ^ i ∧ (∀ j, j < K → 0 ≤ (X j).toInt) ∧ ∀ j, j < i → X j = L j
theorem hnI_0 {L : Nat → Int32} {K b : Nat} (h : ∀ j, j < K → 0 ≤ (L j).toInt) : hnI L L K b K 0 := ⟨Nat.le_refl _, 0, by omega, (Nat.zero_mod _).symm, by rw [Nat.zero_div]; omega, h, fun _ _ => rfl⟩
theorem hnI_s {L X X' : Nat → Int32} {K b i left : Nat} {x : Int32} (h : hnI L X K b (i + 1) left) (hb : 0 < b) (ex : x.toNatClampNeg = (left * 2147483648 + (L i).toNatClampNeg) / b) (hx : 0 ≤ x.toInt) (e : X' = upd X i x) : hnI L X' K b i ((left * 2147483648 + (L i).toNatClampNeg) % b) := by
  obtain ⟨h1, q, h2, h3, h4, h5, h6⟩ := h
  refine ⟨by omega, (L i).toNatClampNeg + q * 2147483648, by rw [h2, hn_s], by rw [h3, hn_m], ?_, fun j hj => ?_, fun j hj => ?_⟩
  · have u := uV_u (f := X) (v := x) (n := K) (show i < K by omega)
    rw [← e, h4, h6 i (Nat.lt_succ_self i), ex, h3, hn_s] at u
    rw [hn_d hb, Nat.add_mul]
    rw [Nat.add_mul] at u
    omega
  · rw [e]
    by_cases z : j = i
    · have q9 : upd X i x j = x := if_pos z
      rw [q9]; exact hx
    · have q9 : upd X i x j = X j := if_neg z
      rw [q9]; exact h5 j hj
  · rw [e]
    exact (if_neg (by omega)).trans (h6 j (by omega))
theorem hnI_e {L X : Nat → Int32} {K b left : Nat} (h : hnI L X K b 0 left) : uV X K = uV L K / b ∧ left = uV L K % b := by
  obtain ⟨h1, q, h2, h3, h4, h5, h6⟩ := h
  have e : uV L K = q := by rw [h2]; show 0 + q * 1 = q; omega
  rw [e, h4]
  exact ⟨by show 0 + q / b * 1 = _; omega, h3⟩
theorem Nu_rest_c {C : zC} {n0 : Nat} {a0 : Nat} {a1 : Int32} {κ : zS} {Q : Int32 → zS → Prop} (W : zW C n0 κ) (Ta0 : zT κ a0 = 8) (c9 : Nat) (hp : nuI κ a0 c9 ∧ 0 < a1.toInt) (h : ∀ (v : Int32), (v.toInt = ((nuN κ a0 % a1.toInt.toNat : Nat) : Int)) → Q v κ) : zRun C 0 mNu_rest [.ref a0, .int a1] κ (oI Q noX) := by
  refine Nu_rest_run W Ta0 ?_
  replace W := W.lo (Nat.le_trans W.1.2.1 W.1.2.2) (Nat.le_refl (zn κ))
  unfold w_Nu_rest_0
  obtain ⟨I0, p1⟩ := hp
  have k0 := nuK_i I0.1
  have lb := I0.1.1
  have ha := ihi a1
  have hl := ihi (zI κ nuLength a0)
  intro x1 hx1
  unfold w_Nu_rest_10
  refine ⟨fun n l0 l1 l2 l4 τ => n = (l4.toInt + 1).toNat ∧ (κ = τ ∧ a0 = l0 ∧ a1 = l1 ∧ (-1 ≤ l4.toInt ∧ l4.toInt < (zI κ nuLength a0).toInt) ∧ 0 ≤ l2.toInt ∧ hrI (zA κ (zR κ nuLimbs a0)) (nuK κ a0) a1.toInt.toNat (l4.toInt + 1).toNat l2.toInt.toNat), ⟨_, rfl, ?_⟩, ?_⟩
  · have e : x1.toInt = (zI κ nuLength a0).toInt - 1 := by rw [hx1, sub_i (by rw [t1i]; omega) (by rw [t1i]; omega), t1i]
    refine ⟨rfl, rfl, rfl, by omega, by decide, ?_⟩
    have e2 : (x1.toInt + 1).toNat = nuK κ a0 := by omega
    rw [e2]
    exact hrI_0
  rintro n10 _ _ x10_2 x10_4 _ W10 T10_0 ⟨hn10, rfl, rfl, rfl, i10⟩
  obtain ⟨k10, c10, J10⟩ := i10
  refine ⟨fun c2 => ?_, fun c2 => ?_⟩
  · skip
    refine h _ ?_
    · rw [lti, t0i] at c2
      have e2 : (x10_4.toInt + 1).toNat = 0 := by omega
      rw [e2] at J10
      obtain ⟨_, h9, g1, g2⟩ := J10
      have e : nuN κ a0 = h9 := by
        refine Eq.trans g1 ?_
        show 0 + h9 * 1 = h9
        omega
      have lm := Nat.mod_lt h9 (y := a1.toInt.toNat) (by omega)
      rw [j_i32 c10 (by omega), e]
      omega
  · skip
    refine ⟨fun c3 => ?_, fun c3 => ?_⟩
    · skip
      refine h _ ?_
      · rw [lei, t0i] at c3
        exact absurd p1 (by omega)
    · skip
      rw [lti, t0i] at c2
      have kx := cnk (x := x10_4) (by omega)
      have lj := I0.1.2.2 x10_4.toNatClampNeg (by omega)
      have hj := ihi (zA κ (zR κ nuLimbs a0) x10_4.toNatClampNeg)
      have kj := cnk lj
      have e64 : a1.toInt64.toInt = a1.toInt := Int32.toInt_toInt64 _
      have e2 : (x10_4.toInt + 1).toNat = x10_4.toNatClampNeg + 1 := by omega
      rw [e2] at J10
      obtain ⟨g0, h9, g1, g2⟩ := id J10
      have lm := Nat.mod_lt h9 (y := a1.toInt.toNat) (by omega)
      have tt := j_top (a := x10_2) (y := zA κ (zR κ nuLimbs a0) x10_4.toNatClampNeg) c10 (by omega) lj
      refine ⟨?_, ?_⟩
      · rw [inb_iff]; omega  -- b4
      refine ⟨?_, ?_⟩
      · intro y
        have := congrArg Int64.toInt y
        rw [e64] at this
        exact absurd this (by show a1.toInt ≠ 0; omega)
      intro x4 hx4
      intro x5 hx5
      refine ⟨_, ?_, rfl, ?_⟩
      · have e : x5.toInt = x10_4.toInt - 1 := by rw [hx5, add_i (by rw [tmi]; omega) (by rw [tmi]; omega), tmi]; omega
        rw [hn10]; omega
      · have e : x5.toInt = x10_4.toInt - 1 := by rw [hx5, add_i (by rw [tmi]; omega) (by rw [tmi]; omega), tmi]; omega
        have s := hrI_s J10
        have m := jmod_i (x := (x10_2 <<< ((31 : Int32).toInt64 &&& 63)) ||| (zA κ (zR κ nuLimbs a0) x10_4.toNatClampNeg).toInt64) (y := a1.toInt64) (by rw [tt]; omega) (by rw [e64]; exact p1)
        rw [← hx4, tt, e64] at m
        have e3 : x10_2.toInt * 2147483648 + (zA κ (zR κ nuLimbs a0) x10_4.toNatClampNeg).toInt = ((x10_2.toInt.toNat * 2147483648 + (zA κ (zR κ nuLimbs a0) x10_4.toNatClampNeg).toNatClampNeg : Nat) : Int) := by omega
        have e4 : a1.toInt = (a1.toInt.toNat : Int) := by omega
        rw [e3, e4, ← Int.natCast_emod] at m
        have e5 : x4.toInt.toNat = (x10_2.toInt.toNat * 2147483648 + (zA κ (zR κ nuLimbs a0) x10_4.toNatClampNeg).toNatClampNeg) % a1.toInt.toNat := by omega
        rw [← e5] at s
        have e6 : (x5.toInt + 1).toNat = x10_4.toNatClampNeg := by omega
        exact ⟨rfl, rfl, rfl, by omega, by omega, by rw [e6]; exact s⟩

theorem Nu_over_c {C : zC} {n0 : Nat} {a0 : Nat} {a1 : Int32} {κ : zS} {Q : Int32 → zS → Prop} (W : zW C n0 κ) (Ta0 : zT κ a0 = 8) (c9 : Nat) (hp : nuI κ a0 c9 ∧ 0 < a1.toInt) (h : ∀ (v : Int32) (κ' : zS), (zF (nuF a0) κ κ' ∧ nuI κ' a0 c9 ∧ nuN κ' a0 = nuN κ a0 / a1.toInt.toNat ∧ v.toInt = ((nuN κ a0 % a1.toInt.toNat : Nat) : Int)) → Q v κ') : zRun C 0 mNu_over [.ref a0, .int a1] κ (oI Q noX) := by
  refine Nu_over_run W Ta0 ?_
  replace W := W.lo (Nat.le_trans W.1.2.1 W.1.2.2) (Nat.le_refl (zn κ))
  unfold w_Nu_over_0
  obtain ⟨I0, p1⟩ := hp
  have k0 := nuK_i I0.1
  have lb := I0.1.1
  have lr := I0.1.2.1
  have ha := ihi a1
  have hl := ihi (zI κ nuLength a0)
  have res : ∀ (x : Int64), 0 ≤ x.toInt → x.toInt.toNat = nuN κ a0 % a1.toInt.toNat → (x.toInt32).toInt = ((nuN κ a0 % a1.toInt.toNat : Nat) : Int) := fun x h1 h2 => by
    have lm := Nat.mod_lt (nuN κ a0) (y := a1.toInt.toNat) (by omega)
    rw [j_i32 h1 (by omega)]
    omega
  have hh59 : ∀ (l0 : Nat) (l2 : Int64) (τ : zS), zW C (zn κ) τ → zT τ l0 = 8 → (a0 = l0 ∧ ∃ ρ, (nuE κ ρ a0 ∧ nuB ρ a0 c9 ∧ nuN ρ a0 = nuN κ a0 / a1.toInt.toNat) ∧ nuR ρ τ a0 ∧ 0 ≤ l2.toInt ∧ l2.toInt.toNat = nuN κ a0 % a1.toInt.toNat) → w_Nu_over_59 C (zn κ) Q  l0 l2 τ := by
    intro z0 z2 τi Wi _ hinit
    unfold w_Nu_over_59
    refine ⟨fun n l0 l2 τ => n = ((zI τ nuLength a0).toInt).toNat ∧ (a0 = l0 ∧ ∃ ρ, (nuE κ ρ a0 ∧ nuB ρ a0 c9 ∧ nuN ρ a0 = nuN κ a0 / a1.toInt.toNat) ∧ nuR ρ τ a0 ∧ 0 ≤ l2.toInt ∧ l2.toInt.toNat = nuN κ a0 % a1.toInt.toNat), ⟨_, rfl, hinit⟩, ?_⟩
    clear hinit
    rintro n59 _ x59_2 κ59 W59 T59_0 ⟨hn59, rfl, i59⟩
    obtain ⟨ρ, ⟨Eρ, Bρ, Vρ⟩, Rρ, l59, v59⟩ := i59
    have lρ := Bρ.1
    have l2ρ := Rρ.2.1
    refine ⟨fun c1 => ?_, fun c1 => ?_⟩
    · skip
      refine h _ _ ?_
      · rw [lei, t0i] at c1
        have q := nuR_e Rρ Bρ (Or.inl c1)
        exact ⟨Eρ.1.tr Rρ.1.1, q.1, by rw [q.2.1]; exact Vρ, res _ l59 v59⟩
    · skip
      rw [lei, t0i] at c1
      have d := dec_i (x := zI κ59 nuLength a0) (by omega)
      refine ⟨?_, ?_⟩
      · rw [Rρ.1.2.1, Rρ.1.2.2.2.1, inb_iff, d]; omega  -- b2
      refine ⟨fun c2 => ?_, fun c2 => ?_⟩
      · skip
        refine h _ _ ?_
        · have q := nuR_e Rρ Bρ (Or.inr c2)
          exact ⟨Eρ.1.tr Rρ.1.1, q.1, by rw [q.2.1]; exact Vρ, res _ l59 v59⟩
      · skip
        intro κ_3 hκ_3
        intro W4
        refine ⟨_, ?_, rfl, ?_⟩
        · have s := nuR_s Rρ (by omega) c2 hκ_3
          rw [hn59]; omega
        · exact ⟨rfl, ρ, ⟨Eρ, Bρ, Vρ⟩, (nuR_s Rρ (by omega) c2 hκ_3).1, l59, v59⟩  -- i5
  intro x5 hx5
  unfold w_Nu_over_10
  refine ⟨fun n l0 l1 l2 l4 τ => n = (l4.toInt + 1).toNat ∧ (a0 = l0 ∧ a1 = l1 ∧ nuE κ τ a0 ∧ (-1 ≤ l4.toInt ∧ l4.toInt < (zI κ nuLength a0).toInt) ∧ 0 ≤ l2.toInt ∧ hnI (zA κ (zR κ nuLimbs a0)) (zA τ (zR κ nuLimbs a0)) (nuK κ a0) a1.toInt.toNat (l4.toInt + 1).toNat l2.toInt.toNat), ⟨_, rfl, ?_⟩, ?_⟩
  · have e : x5.toInt = (zI κ nuLength a0).toInt - 1 := by rw [hx5, sub_i (by rw [t1i]; omega) (by rw [t1i]; omega), t1i]
    refine ⟨rfl, rfl, nuE.rf, by omega, by decide, ?_⟩
    have e2 : (x5.toInt + 1).toNat = nuK κ a0 := by omega
    rw [e2]
    exact hnI_0 (fun j hj => I0.1.2.2 j (by omega))
  rintro n10 _ _ x10_2 x10_4 κ10 W10 T10_0 ⟨hn10, rfl, rfl, i10⟩
  obtain ⟨E10, k10, c10, J10⟩ := i10
  have rs := E10.2.1
  have is := E10.2.2.1
  have ns := E10.2.2.2
  refine ⟨fun c6 => ?_, fun c6 => ?_⟩
  · skip
    refine hh59 _ _ _ W10 (by assumption) ?_
    · rw [lti, t0i] at c6
      have e2 : (x10_4.toInt + 1).toNat = 0 := by omega
      rw [e2] at J10
      have fin := hnI_e J10
      obtain ⟨_, _, _, _, _, g5, _⟩ := J10
      have V : nuN κ10 a0 = uV (zA κ10 (zR κ nuLimbs a0)) (nuK κ a0) := by
        unfold nuN nuK
        rw [is, rs]
      have B : nuB κ10 a0 c9 := by
        refine ⟨?_, ?_, fun i hi => ?_⟩
        · rw [rs, ns, is]; exact lb
        · rw [rs, ns]; exact lr
        · rw [is] at hi
          rw [rs]
          exact g5 i (by omega)
      exact ⟨rfl, κ10, ⟨E10, B, V.trans fin.1⟩, ⟨nuT.rf, ⟨B.1.1, Int.le_refl _⟩, rfl⟩, c10, fin.2⟩
  · skip
    refine ⟨fun c7 => ?_, fun c7 => ?_⟩
    · skip
      refine hh59 _ _ _ W10 (by assumption) ?_
      · rw [lei, t0i] at c7
        exact absurd p1 (by omega)
    · skip
      rw [lti, t0i] at c6
      have kx := cnk (x := x10_4) (by omega)
      have e2 : (x10_4.toInt + 1).toNat = x10_4.toNatClampNeg + 1 := by omega
      rw [e2] at J10
      obtain ⟨g0, h9, g1, g2, g3, g4, g5⟩ := id J10
      have lx := g5 x10_4.toNatClampNeg (Nat.lt_succ_self _)
      have lj := I0.1.2.2 x10_4.toNatClampNeg (by omega)
      have hj := ihi (zA κ (zR κ nuLimbs a0) x10_4.toNatClampNeg)
      have kj := cnk lj
      have e64 : a1.toInt64.toInt = a1.toInt := Int32.toInt_toInt64 _
      have lm := Nat.mod_lt h9 (y := a1.toInt.toNat) (by omega)
      have tt := j_top (a := x10_2) (y := zA κ (zR κ nuLimbs a0) x10_4.toNatClampNeg) c10 (by omega) lj
      have nz : ¬ a1.toInt64 = 0 := fun y => by
        have := congrArg Int64.toInt y
        rw [e64] at this
        exact absurd this (by show a1.toInt ≠ 0; omega)
      refine ⟨?_, ?_⟩
      · rw [rs, ns, inb_iff]; omega  -- b9
      intro x8 hx8
      refine ⟨?_, ?_⟩
      · exact nz  -- b10
      refine ⟨?_, ?_⟩
      · rw [rs, ns, inb_iff]; omega  -- b11
      intro κ_9 hκ_9
      intro W10
      refine ⟨?_, ?_⟩
      · exact nz  -- b12
      intro x11 hx11
      intro x12 hx12
      skip
      refine ⟨_, ?_, rfl, ?_⟩
      · have e : x12.toInt = x10_4.toInt - 1 := by rw [hx12, add_i (by rw [tmi]; omega) (by rw [tmi]; omega), tmi]; omega
        rw [hn10]; omega
      · have e : x12.toInt = x10_4.toInt - 1 := by rw [hx12, add_i (by rw [tmi]; omega) (by rw [tmi]; omega), tmi]; omega
        have W10' : zW C (zn κ) κ10 := by assumption
        obtain ⟨u1, u2, u3⟩ := nu_u W10' T10_0 hκ_9
        rw [rs] at u2
        rw [rs, lx] at hx8
        rw [← hx8] at tt
        have m := jmod_i (x := x8) (y := a1.toInt64) (by rw [tt]; omega) (by rw [e64]; exact p1)
        have dv9 := jdiv_i (x := x8) (y := a1.toInt64) (by rw [tt]; omega) (by rw [e64]; exact p1)
        have e3 : x10_2.toInt * 2147483648 + (zA κ (zR κ nuLimbs a0) x10_4.toNatClampNeg).toInt = ((x10_2.toInt.toNat * 2147483648 + (zA κ (zR κ nuLimbs a0) x10_4.toNatClampNeg).toNatClampNeg : Nat) : Int) := by omega
        have e4 : a1.toInt = (a1.toInt.toNat : Int) := by omega
        rw [← hx11, tt, e64, e3, e4, ← Int.natCast_emod] at m
        rw [tt, e64, e3, e4, ← Int.natCast_ediv] at dv9
        have bd := hn_b (r := x10_2.toInt.toNat) (b := a1.toInt.toNat) (l := (zA κ (zR κ nuLimbs a0) x10_4.toNatClampNeg).toNatClampNeg) (by omega) (by omega)
        have nn : 0 ≤ (x8 / a1.toInt64).toInt := by rw [dv9]; exact Int.natCast_nonneg _
        have f9 := j_i32 (x := x8 / a1.toInt64) nn (by omega)
        have kf := cnk (x := (x8 / a1.toInt64).toInt32) (by rw [f9]; exact nn)
        have s := hnI_s (x := (x8 / a1.toInt64).toInt32) J10 (by omega) (by omega) (by omega) u2
        have e5 : x11.toInt.toNat = (x10_2.toInt.toNat * 2147483648 + (zA κ (zR κ nuLimbs a0) x10_4.toNatClampNeg).toNatClampNeg) % a1.toInt.toNat := by omega
        rw [← e5] at s
        have e6 : (x12.toInt + 1).toNat = x10_4.toNatClampNeg := by omega
        exact ⟨rfl, rfl, E10.tr u1, by omega, by omega, by rw [e6]; exact s⟩

/-- a row of a product -/
def prI (X Y M : Nat → Int32) (q i j c : Nat) : Prop := uV Y (i + j) + c * 2147483648 ^ (i + j) = uV X (i + j) + q * uV M j * 2147483648 ^ i ∧ c < 2147483648 ∧ (∀ k, k < i + j → 0 ≤ (Y k).toInt) ∧ ∀ k, i + j ≤ k → Y k = X k
theorem ar31r {p D S R c x y q v P : Nat} (h : D + c * p = S + q * R * P) (hv : v = q * y + x + c) (hp : ∃ r, p = r * P ∧ True) : D + v % 2147483648 * p + v / 2147483648 * (2147483648 * p) = S + x * p + (q * R * P + q * y * p) := by
  have m := Nat.div_add_mod v 2147483648
  have e : (2147483648 * (v / 2147483648) + v % 2147483648) * p = (q * y + x + c) * p := by rw [m, hv]
  rw [Nat.add_mul, Nat.add_mul, Nat.add_mul] at e
  have f : v / 2147483648 * (2147483648 * p) = 2147483648 * (v / 2147483648) * p := by
    rw [← Nat.mul_assoc, Nat.mul_comm (v / 2147483648) 2147483648]
  omega
theorem prI_s {X Y Y' M : Nat → Int32} {q i j c v : Nat} {x : Int32} (h : prI X Y M q i j c) (hq : q < 2147483648) (hv : v = q * (M j).toNatClampNeg + (X (i + j)).toNatClampNeg + c) (ex : x.toInt = (v : Int) % 2147483648) (e : Y' = upd Y (i + j) x) : prI X Y' M q i (j + 1) (v / 2147483648) := by
  obtain ⟨h1, h2, h3, h4⟩ := h
  have l1 := lim31 (M j)
  have l2 := lim31 (X (i + j))
  have mm : q * (M j).toNatClampNeg ≤ 2147483647 * 2147483647 := Nat.mul_le_mul (by omega) (by omega)
  have kx := cnk (x := x) (by omega)
  have mi : Y' (i + j) = x := by rw [e]; exact if_pos rfl
  have mj : ∀ k, k ≠ i + j → Y' k = Y k := fun k hk => by rw [e]; exact if_neg hk
  refine ⟨?_, by omega, fun k hk => ?_, fun k hk => ?_⟩
  · show uV Y' (i + j) + (Y' (i + j)).toNatClampNeg * 2147483648 ^ (i + j) + _ * 2147483648 ^ (i + j + 1) = uV X (i + j) + (X (i + j)).toNatClampNeg * 2147483648 ^ (i + j) + q * (uV M j + (M j).toNatClampNeg * 2147483648 ^ j) * 2147483648 ^ i
    rw [uV_e (g := Y) (fun k hk => mj k (Nat.ne_of_lt hk)), mi, p31_s]
    have e9 : x.toNatClampNeg = v % 2147483648 := by omega
    have e8 : q * (uV M j + (M j).toNatClampNeg * 2147483648 ^ j) * 2147483648 ^ i = q * uV M j * 2147483648 ^ i + q * (M j).toNatClampNeg * 2147483648 ^ (i + j) := by
      rw [Nat.mul_add, Nat.add_mul, Nat.pow_add, Nat.mul_comm (2147483648 ^ i) (2147483648 ^ j), ← Nat.mul_assoc, ← Nat.mul_assoc]
    rw [e9, e8]
    exact ar31r h1 hv ⟨2147483648 ^ j, by rw [Nat.pow_add, Nat.mul_comm], trivial⟩
  · by_cases z : k = i + j
    · rw [z, mi]; omega
    · rw [mj k z]; exact h3 k (by omega)
  · rw [mj k (by omega)]; exact h4 k (by omega)
theorem prI_e {X Y Y' L M : Nat → Int32} {q i j c : Nat} {x : Int32} (h : prI X Y M q i j c) (hX : uV X (i + j) = uV L i * uV M j) (hq : q = (L i).toNatClampNeg) (ex : x.toInt = c) (e : Y' = upd Y (i + j) x) : uV Y' (i + 1 + j) = uV L (i + 1) * uV M j := by
  obtain ⟨h1, h2, h3, h4⟩ := h
  have kx := cnk (x := x) (by omega)
  have e1 : i + 1 + j = i + j + 1 := by omega
  have ec : x.toNatClampNeg = c := by omega
  have mi : Y' (i + j) = x := by rw [e]; exact if_pos rfl
  have mj : ∀ k, k ≠ i + j → Y' k = Y k := fun k hk => by rw [e]; exact if_neg hk
  rw [e1]
  show uV Y' (i + j) + (Y' (i + j)).toNatClampNeg * 2147483648 ^ (i + j) = (uV L i + (L i).toNatClampNeg * 2147483648 ^ i) * uV M j
  rw [uV_e (g := Y) (fun k hk => mj k (Nat.ne_of_lt hk)), mi, ec, h1, hX, hq, Nat.add_mul, Nat.mul_right_comm]
theorem Nu_product_c {C : zC} {n0 : Nat} {a0 : Nat} {a1 : Nat} {a2 : Nat} {κ : zS} {Q : zS → Prop} (W : zW C n0 κ) (Ta0 : zT κ a0 = 8) (Ta1 : zT κ a1 = 8) (Ta2 : zT κ a2 = 8) (c9 d9 e9 : Nat) (hp : (2 ≤ (zN κ (zR κ nuLimbs a0)) ∧ (zN κ (zR κ nuLimbs a0)) ≤ c9) ∧ (nuI κ a1 d9 ∧ nuI κ a2 e9) ∧ (a0 ≠ a1 ∧ a0 ≠ a2) ∧ nuK κ a1 + nuK κ a2 + (nuK κ a1 + nuK κ a2) / 2 + 1 ≤ c9 ∧ c9 ≤ 30000000) (h : ∀ (κ' : zS), (zF (nuF a0) κ κ' ∧ nuI κ' a0 c9 ∧ nuN κ' a0 = nuN κ a1 * nuN κ a2) → Q κ') : zRun C 3 mNu_product [.ref a0, .ref a1, .ref a2] κ (oV Q noX) := by
  refine Nu_product_run W Ta0 Ta1 Ta2 ?_
  replace W := W.lo (Nat.le_trans W.1.2.1 W.1.2.2) (Nat.le_refl (zn κ))
  unfold w_Nu_product_0
  obtain ⟨lr, ⟨I1, I2⟩, ⟨ne1, ne2⟩, p1, p2⟩ := hp
  have k1 := nuK_i I1.1
  have k2 := nuK_i I2.1
  have kd1 : nuK κ a1 = (zI κ nuLength a1).toNatClampNeg := rfl
  have kd2 : nuK κ a2 = (zI κ nuLength a2).toNatClampNeg := rfl
  have lb1 := I1.1.1
  have lb2 := I2.1.1
  have nF1 : ∀ f, ¬ nuF a0 f a1 := fun f z => ne1 z.1.symm
  have nF2 : ∀ f, ¬ nuF a0 f a2 := fun f z => ne2 z.1.symm
  intro x1 hx1
  intro T2
  have ex : x1.toInt = ((nuK κ a1 + nuK κ a2 : Nat) : Int) := by
    rw [hx1, add_i (by omega) (by omega)]
    omega
  have kx1 := cnk (x := x1) (by omega)
  refine Nu_widen_c W T2  ?_ (fun κ_3 q4 => ?_)
  · exact ⟨by omega, lr.1⟩  -- p1
  obtain ⟨F3, I3, R3, L3, A3⟩ := q4
  have T3 : zT κ_3 a0 = 8 := F3.t Ta0 (by decide)
  have u3 := nu_z W Ta2 F3 (nF2 nuLimbs) (nF2 nuLength)
  intro W5
  intro M6
  intro x7 hx7
  intro x8 hx8
  intro T9
  refine Ar_fill4_c W5 T9  ?_ (fun κ_10 q11 => ?_)
  · exact ⟨by decide, by rw [lei, t0i]; omega, by rw [hx7]; omega⟩  -- p2
  have q12 : κ_10 = uff κ_3 x7 0 x1.toNatClampNeg 0 := q11
  have R8 : zR κ_10 = zR κ_3 := by rw [q12]; rfl
  have I8 : zI κ_10 = zI κ := by rw [q12]; exact I3
  have N8 : zN κ_10 = zN κ_3 := by rw [q12]; rfl
  have ow := W5.o (show zr nuLimbs = some 20 by decide +kernel) (by decide) T3
  rw [← hx7] at ow
  have Z8 : zF (nuF a0) κ κ_10 := F3.tr (by rw [q12]; exact zF_uf (by rw [ow]; exact ⟨rfl, Or.inl rfl⟩))
  have A8 : ∀ j, j < nuK κ a1 + nuK κ a2 → zA κ_10 x7 j = 0 := fun j hj => by
    rw [q12]
    refine (congrFun (if_pos rfl) j).trans ?_
    exact if_pos ⟨Nat.zero_le _, by omega⟩
  have ex8 : x8 = zR κ nuLimbs a2 := hx8.trans u3.2.1
  intro W12
  intro M13
  unfold w_Nu_product_38
  refine ⟨fun n l0 l1 l2 l3 l4 l5 l6 τ => n = ((zI κ nuLength a1).toInt - l6.toInt).toNat ∧ (a0 = l0 ∧ a1 = l1 ∧ a2 = l2 ∧ (x1 = l3 ∧ x7 = l4 ∧ x8 = l5) ∧ nuE κ_10 τ a0 ∧ (0 ≤ l6.toInt ∧ l6.toInt ≤ (zI κ nuLength a1).toInt) ∧ uV (zA τ x7) (l6.toNatClampNeg + nuK κ a2) = uV (zA κ (zR κ nuLimbs a1)) l6.toNatClampNeg * nuN κ a2 ∧ ∀ k : Nat, k < nuK κ a1 + nuK κ a2 → 0 ≤ (zA τ x7 k).toInt), ⟨_, rfl, ?_⟩, ?_⟩
  · refine ⟨rfl, rfl, rfl, ⟨rfl, rfl, rfl⟩, nuE.rf, ⟨by decide, by rw [t0i]; omega⟩, ?_, fun k hk => by rw [A8 k hk]; decide⟩
    show uV _ (0 + nuK κ a2) = 0 * _
    rw [uV_pad (k := 0) (Nat.zero_le _) (fun i _ hi => A8 i (by omega))]
    show 0 = _
    omega
  rintro n38 _ _ _ x38_3 x38_4 x38_5 x38_6 κ38 W38 T38_0 T38_1 T38_2 T38_3 T38_4 ⟨hn38, rfl, rfl, rfl, i38⟩
  obtain ⟨⟨rfl, rfl, rfl⟩, E38, k38, V38, P38⟩ := i38
  have rs : zR κ38 = zR κ_3 := E38.2.1.trans R8
  have is : zI κ38 = zI κ := E38.2.2.1.trans I8
  have ns : zN κ38 = zN κ_3 := E38.2.2.2.trans N8
  have Z38 := Z8.tr E38.1
  have u1 := nu_z W Ta1 Z38 (nF1 nuLimbs) (nF1 nuLength)
  have kn := cnk k38.1
  have fin : ∀ (σ : zS), zI κ38 nuLength a1 ≤ x38_6 → σ = ui κ38 nuLength a0 x1 → zF (nuF a0) κ σ ∧ nuB σ a0 c9 ∧ nuN σ a0 = nuN κ a1 * nuN κ a2 := fun σ c14 e => by
    rw [is, lei] at c14
    have kk : x38_6.toNatClampNeg = nuK κ a1 := by omega
    rw [kk] at V38
    have R : zR σ = zR κ_3 := by rw [e]; exact rs
    have N : zN σ = zN κ_3 := by rw [e]; exact ns
    have A : zA σ = zA κ38 := by rw [e]; rfl
    have I : zI σ nuLength a0 = x1 := by rw [e]; exact if_pos ⟨rfl, rfl⟩
    refine ⟨Z38.tr (by rw [e]; exact zF_ui ⟨rfl, Or.inr rfl⟩), ⟨?_, ?_, fun i hi => ?_⟩, ?_⟩
    · rw [R, N, I, ← hx7]
      rw [← hx7] at L3
      omega
    · rw [R, N]; omega
    · rw [I] at hi
      rw [R, A, ← hx7]
      exact P38 i (by omega)
    · have ek : x1.toNatClampNeg = nuK κ a1 + nuK κ a2 := by omega
      unfold nuN
      rw [I, R, A, ek, ← hx7]
      exact V38
  refine ⟨fun c14 => ?_, fun c14 => ?_⟩
  · skip
    intro κ_15 hκ_15
    intro W16
    intro T17
    refine Nu_trim_c W16 T17 c9 ?_ (fun κ_18 q19 => ?_)
    · exact (fin _ c14 hκ_15).2.1  -- p4
    intro W20
    intro M21
    refine h _ ?_
    · have f := fin _ c14 hκ_15
      exact ⟨f.1.tr q19.1.1, q19.2.1, by rw [q19.2.2.1]; exact f.2.2⟩
  · skip
    rw [is, lei] at c14
    refine ⟨?_, ?_⟩
    · rw [u1.2.1, u1.2.2.2, inb_iff]; omega  -- b6
    intro x22 hx22
    unfold w_Nu_product_63
    refine ⟨fun n l0 l1 l2 l3 l4 l5 l6 l7 l9 l11 τ => n = ((zI κ nuLength a2).toInt - l11.toInt).toNat ∧ (a0 = l0 ∧ a1 = l1 ∧ a2 = l2 ∧ (x1 = l3 ∧ x7 = l4 ∧ x8 = l5 ∧ x38_6 = l6 ∧ x22 = l7) ∧ nuE κ_10 τ a0 ∧ (0 ≤ l11.toInt ∧ l11.toInt ≤ (zI κ nuLength a2).toInt) ∧ 0 ≤ l9.toInt ∧ prI (zA κ38 x7) (zA τ x7) (zA κ (zR κ nuLimbs a2)) (zA κ (zR κ nuLimbs a1) x38_6.toNatClampNeg).toNatClampNeg x38_6.toNatClampNeg l11.toNatClampNeg l9.toInt.toNat), ⟨_, rfl, ?_⟩, ?_⟩
    · refine ⟨rfl, rfl, rfl, ⟨rfl, rfl, rfl, rfl, rfl⟩, E38, ⟨by decide, by rw [t0i]; omega⟩, by decide, ?_, by decide, fun k hk => P38 k (by
        have hk' : k < x38_6.toNatClampNeg + 0 := hk
        omega), fun _ _ => rfl⟩
      show _ + 0 * _ = _ + _ * 0 * _
      rw [Nat.mul_zero, Nat.zero_mul]
      rw [Nat.zero_mul]
    rintro n63 _ _ _ x63_3 x63_4 x63_5 x63_6 x63_7 x63_9 x63_11 κ63 W63 T63_0 T63_1 T63_2 T63_3 T63_4 ⟨hn63, rfl, rfl, rfl, i63⟩
    obtain ⟨⟨rfl, rfl, rfl, rfl, rfl⟩, E63, k63, c63, J63⟩ := i63
    have rs6 : zR κ63 = zR κ_3 := E63.2.1.trans R8
    have is6 : zI κ63 = zI κ := E63.2.2.1.trans I8
    have ns6 : zN κ63 = zN κ_3 := E63.2.2.2.trans N8
    have Z63 := Z8.tr E63.1
    have u2 := nu_z W Ta2 Z63 (nF2 nuLimbs) (nF2 nuLength)
    have kn6 := cnk k63.1
    have ew : x7 = zR κ63 nuLimbs a0 := hx7.trans (by rw [rs6])
    have rw7 : zN κ63 x7 = zN κ_3 (zR κ_3 nuLimbs a0) := by rw [ns6, hx7]
    have bq := J63.2.1
    refine ⟨fun c23 => ?_, fun c23 => ?_⟩
    · skip
      refine ⟨?_, ?_⟩
      · rw [is6, rw7, inb_iff, add_i (by omega) (by omega)]
        rw [is6, lei] at c23
        omega
      intro κ_24 hκ_24
      intro W25
      intro x26 hx26
      rw [is6, lei] at c23
      have kk : x63_11.toNatClampNeg = nuK κ a2 := by omega
      rw [kk] at J63
      have e5 := cn1 (x := x38_6) k38.1 (by omega)
      refine ⟨_, ?_, rfl, ?_⟩
      · rw [hn38, hx26, e5.2]; omega  -- d9
      · have ea : (x38_6 + zI κ nuLength a2).toInt = x38_6.toInt + (zI κ nuLength a2).toInt := add_i (by omega) (by omega)
        have ka := cnk (x := x38_6 + zI κ nuLength a2) (by omega)
        rw [is6, ew] at hκ_24
        obtain ⟨v1, v2, v3⟩ := nu_u W63 T63_0 hκ_24
        rw [← ew] at v2
        have en : (x38_6 + zI κ nuLength a2).toNatClampNeg = x38_6.toNatClampNeg + nuK κ a2 := by omega
        rw [en] at v2
        have ei := j_i32 (x := x63_9) c63 (by omega)
        have fin9 := prI_e (L := zA κ (zR κ nuLimbs a1)) J63 V38 rfl (by omega) v2
        refine ⟨rfl, rfl, rfl, ⟨rfl, rfl, rfl⟩, E63.tr v1, by rw [hx26, e5.2]; omega, ?_, fun k hk => ?_⟩
        · rw [hx26, e5.1]; exact fin9
        · rw [v2]
          by_cases z : k = x38_6.toNatClampNeg + nuK κ a2
          · have : upd (zA κ63 x7) (x38_6.toNatClampNeg + nuK κ a2) x63_9.toInt32 k = x63_9.toInt32 := if_pos z
            rw [this]; omega
          · have : upd (zA κ63 x7) (x38_6.toNatClampNeg + nuK κ a2) x63_9.toInt32 k = zA κ63 x7 k := if_neg z
            rw [this]
            by_cases z2 : k < x38_6.toNatClampNeg + nuK κ a2
            · exact J63.2.2.1 k z2
            · rw [J63.2.2.2 k (by omega)]; exact P38 k hk
    · skip
      rw [is6, lei] at c23
      have g1 := I1.1.2.2 x38_6.toNatClampNeg (by omega)
      have g2 := I2.1.2.2 x63_11.toNatClampNeg (by omega)
      have h1 := ihi (zA κ (zR κ nuLimbs a1) x38_6.toNatClampNeg)
      have h2 := ihi (zA κ (zR κ nuLimbs a2) x63_11.toNatClampNeg)
      have kg1 := cnk g1
      have kg2 := cnk g2
      have ea : (x38_6 + x63_11).toInt = x38_6.toInt + x63_11.toInt := add_i (by omega) (by omega)
      have ka := cnk (x := x38_6 + x63_11) (by omega)
      have en : (x38_6 + x63_11).toNatClampNeg = x38_6.toNatClampNeg + x63_11.toNatClampNeg := by omega
      have gx := P38 (x38_6.toNatClampNeg + x63_11.toNatClampNeg) (by omega)
      have jx := J63.2.2.2 (x38_6.toNatClampNeg + x63_11.toNatClampNeg) (Nat.le_refl _)
      have h3 := ihi (zA κ38 x7 (x38_6.toNatClampNeg + x63_11.toNatClampNeg))
      have kg3 := cnk gx
      have m1 : (zA κ (zR κ nuLimbs a1) x38_6.toNatClampNeg).toNatClampNeg * (zA κ (zR κ nuLimbs a2) x63_11.toNatClampNeg).toNatClampNeg ≤ 2147483647 * 2147483647 := Nat.mul_le_mul (by omega) (by omega)
      refine ⟨?_, ?_⟩
      · rw [ex8, u2.2.2.2, inb_iff]; omega  -- b11
      refine ⟨?_, ?_⟩
      · rw [rw7, inb_iff, ea]; omega  -- b12
      intro x27 hx27
      have hx27' := hx27
      rw [hx22, u1.2.1, u1.2.2.1, ex8, u2.2.2.1, en, jx] at hx27'
      have b1 : (zA κ (zR κ nuLimbs a1) x38_6.toNatClampNeg).toInt64.toInt = (zA κ (zR κ nuLimbs a1) x38_6.toNatClampNeg).toInt := Int32.toInt_toInt64 _
      have b2 : (zA κ (zR κ nuLimbs a2) x63_11.toNatClampNeg).toInt64.toInt = (zA κ (zR κ nuLimbs a2) x63_11.toNatClampNeg).toInt := Int32.toInt_toInt64 _
      have b3 : (zA κ38 x7 (x38_6.toNatClampNeg + x63_11.toNatClampNeg)).toInt64.toInt = (zA κ38 x7 (x38_6.toNatClampNeg + x63_11.toNatClampNeg)).toInt := Int32.toInt_toInt64 _
      have em : (zA κ (zR κ nuLimbs a1) x38_6.toNatClampNeg).toInt * (zA κ (zR κ nuLimbs a2) x63_11.toNatClampNeg).toInt = (((zA κ (zR κ nuLimbs a1) x38_6.toNatClampNeg).toNatClampNeg * (zA κ (zR κ nuLimbs a2) x63_11.toNatClampNeg).toNatClampNeg : Nat) : Int) := by
        rw [Int.natCast_mul, kg1, kg2]
      have t1 : ((zA κ (zR κ nuLimbs a1) x38_6.toNatClampNeg).toInt64 * (zA κ (zR κ nuLimbs a2) x63_11.toNatClampNeg).toInt64).toInt = (((zA κ (zR κ nuLimbs a1) x38_6.toNatClampNeg).toNatClampNeg * (zA κ (zR κ nuLimbs a2) x63_11.toNatClampNeg).toNatClampNeg : Nat) : Int) := by
        rw [jmul_i (by rw [b1, b2, em]; omega) (by rw [b1, b2, em]; omega), b1, b2, em]
      have t2 : ((zA κ (zR κ nuLimbs a1) x38_6.toNatClampNeg).toInt64 * (zA κ (zR κ nuLimbs a2) x63_11.toNatClampNeg).toInt64 + (zA κ38 x7 (x38_6.toNatClampNeg + x63_11.toNatClampNeg)).toInt64).toInt = (((zA κ (zR κ nuLimbs a1) x38_6.toNatClampNeg).toNatClampNeg * (zA κ (zR κ nuLimbs a2) x63_11.toNatClampNeg).toNatClampNeg : Nat) : Int) + (zA κ38 x7 (x38_6.toNatClampNeg + x63_11.toNatClampNeg)).toInt := by
        rw [jadd_i (by rw [t1, b3]; omega) (by rw [t1, b3]; omega), t1, b3]
      have t3 : x27.toInt = (((zA κ (zR κ nuLimbs a1) x38_6.toNatClampNeg).toNatClampNeg * (zA κ (zR κ nuLimbs a2) x63_11.toNatClampNeg).toNatClampNeg + (zA κ38 x7 (x38_6.toNatClampNeg + x63_11.toNatClampNeg)).toNatClampNeg + x63_9.toInt.toNat : Nat) : Int) := by
        rw [hx27', jadd_i (by rw [t2]; omega) (by rw [t2]; omega), t2]
        omega
      have f1 := (j_and (x := x27)).2
      have f2 := j_shr (x := x27) (by omega)
      have e5 := cn1 (x := x63_11) k63.1 (by omega)
      refine ⟨?_, ?_⟩
      · rw [rw7, inb_iff, ea]; omega  -- b13
      intro κ_28 hκ_28
      intro W29
      intro x30 hx30
      intro x31 hx31
      refine ⟨_, ?_, rfl, ?_⟩
      · rw [hn63, hx31, e5.2]; omega  -- d14
      · rw [← hx30] at f2
        rw [ew] at hκ_28
        obtain ⟨v1, v2, v3⟩ := nu_u W63 T63_0 hκ_28
        rw [← ew, en] at v2
        have s := prI_s (x := (x27 &&& 2147483647).toInt32) J63 (by omega) rfl (by rw [f1, t3]) v2
        have ec : x30.toInt.toNat = ((zA κ (zR κ nuLimbs a1) x38_6.toNatClampNeg).toNatClampNeg * (zA κ (zR κ nuLimbs a2) x63_11.toNatClampNeg).toNatClampNeg + (zA κ38 x7 (x38_6.toNatClampNeg + x63_11.toNatClampNeg)).toNatClampNeg + x63_9.toInt.toNat) / 2147483648 := by omega
        rw [← ec] at s
        exact ⟨rfl, rfl, rfl, ⟨rfl, rfl, rfl, rfl, rfl⟩, E63.tr v1, by rw [hx31, e5.2]; omega, by omega, by rw [hx31, e5.1]; exact s⟩

end
section
set_option maxHeartbeats 1600000
/-! the class: Num's bitsOf, bits, words, word, high -/
theorem i_sh1 {x : Int32} : (x >>> ((1 : Int32) &&& 31)).toInt = x.toInt / 2 := by
  have e : (x >>> ((1 : Int32) &&& 31)).toBitVec = x.toBitVec.sshiftRight 1 := by
    rw [Int32.toBitVec_shiftRight, BitVec.sshiftRight_eq']
    rfl
  have t : (x >>> ((1 : Int32) &&& 31)).toInt = (x.toBitVec.sshiftRight 1).toInt := by rw [← e]; rfl
  rw [t, BitVec.toInt_sshiftRight, Int.shiftRight_eq_div_pow]
  rfl
/-- counting bits -/
def btI (a v r : Nat) : Prop := a / 2 ^ v = r ∧ (v = 0 ∨ 2 ^ (v - 1) ≤ a)
theorem btI_s {a v r : Nat} (h : btI a v r) (hr : 0 < r) : btI a (v + 1) (r / 2) := by
  refine ⟨by rw [Nat.pow_succ, ← Nat.div_div_eq_div_mul, h.1], Or.inr ?_⟩
  show 2 ^ v ≤ a
  refine Nat.le_of_not_lt (fun l => ?_)
  have := Nat.div_eq_of_lt l
  have := h.1
  omega
theorem btI_e {a v : Nat} (h : btI a v 0) : a < 2 ^ v ∧ (0 < a → 1 ≤ v ∧ 2 ^ (v - 1) ≤ a) := by
  have p : 0 < 2 ^ v := Nat.pow_pos (by decide)
  have l : a < 2 ^ v := Nat.lt_of_not_le (fun l => by
    have d := Nat.div_le_div_right (c := 2 ^ v) l
    rw [Nat.div_self p, h.1] at d
    omega)
  refine ⟨l, fun ha => ?_⟩
  rcases h.2 with z | z
  · rw [z] at l
    exact absurd l (by show ¬ a < 1; omega)
  · by_cases y : v = 0
    · rw [y] at l
      exact absurd l (by show ¬ a < 1; omega)
    · exact ⟨by omega, z⟩
theorem btI_b {a v r : Nat} (h : btI a v r) (ha : a < 2147483648) : v ≤ 31 := by
  rcases h.2 with z | z
  · omega
  · have : 2 ^ (v - 1) < 2 ^ 31 := Nat.lt_of_le_of_lt z ha
    have := (Nat.pow_lt_pow_iff_right (by decide : 1 < 2)).mp this
    omega
theorem p31_2 {k : Nat} : 2147483648 ^ k = 2 ^ (31 * k) := by
  have e : (2 : Nat) ^ 31 = 2147483648 := by decide
  rw [Nat.pow_mul, e]
theorem Nu_bitsOf_c {C : zC} {n0 : Nat} {a0 : Int32} {κ : zS} {Q : Int32 → zS → Prop} (W : zW C n0 κ)   (hp : 0 ≤ a0.toInt) (h : ∀ (v : Int32), ((0 ≤ v.toInt ∧ v.toInt ≤ 31) ∧ a0.toInt.toNat < 2 ^ v.toInt.toNat ∧ (0 < a0.toInt → 1 ≤ v.toInt ∧ 2 ^ (v.toInt.toNat - 1) ≤ a0.toInt.toNat)) → Q v κ) : zRun C 0 mNu_bitsOf [.int a0] κ (oI Q noX) := by
  refine Nu_bitsOf_run W  ?_
  replace W := W.lo (Nat.le_trans W.1.2.1 W.1.2.2) (Nat.le_refl (zn κ))
  unfold w_Nu_bitsOf_0
  have ha := ihi a0
  unfold w_Nu_bitsOf_4
  refine ⟨fun n l1 l2 τ => n = l2.toInt.toNat ∧ (κ = τ ∧ 0 ≤ l1.toInt ∧ 0 ≤ l2.toInt ∧ btI a0.toInt.toNat l1.toInt.toNat l2.toInt.toNat), ⟨_, rfl, ?_⟩, ?_⟩
  · exact ⟨rfl, by decide, hp, Nat.div_one _, Or.inl rfl⟩  -- j1
  rintro n4 x4_1 x4_2 _ W4  ⟨hn4, rfl, i4⟩
  obtain ⟨k4, c4, J4⟩ := i4
  have bb := btI_b J4 (by omega)
  refine ⟨fun c1 => ?_, fun c1 => ?_⟩
  · skip
    refine h _ ?_
    · rw [lei, t0i] at c1
      have e : x4_2.toInt.toNat = 0 := by omega
      rw [e] at J4
      have f := btI_e J4
      exact ⟨by omega, f.1, fun z => by
        have := f.2 (by omega)
        exact ⟨by omega, this.2⟩⟩
  · skip
    intro x2 hx2
    intro x3 hx3
    refine ⟨_, ?_, rfl, ?_⟩
    · rw [lei, t0i] at c1
      rw [hn4, hx3, i_sh1]
      omega
    · rw [lei, t0i] at c1
      have e1 : x2.toInt = x4_1.toInt + 1 := by rw [hx2, add_i (by rw [t1i]; omega) (by rw [t1i]; omega), t1i]
      have e2 : x3.toInt = x4_2.toInt / 2 := by rw [hx3, i_sh1]
      have s := btI_s J4 (by omega)
      have e3 : x2.toInt.toNat = x4_1.toInt.toNat + 1 := by omega
      have e4 : x3.toInt.toNat = x4_2.toInt.toNat / 2 := by omega
      exact ⟨rfl, by omega, by omega, by rw [e3, e4]; exact s⟩

/-- the highest limb -/
def nuH (κ : zS) (x : Nat) : Nat := if nuK κ x = 0 then 0 else (zA κ (zR κ nuLimbs x) (nuK κ x - 1)).toNatClampNeg
theorem nuH_e {κ : zS} {x c s : Nat} (I : nuI κ x c) (h : btI (nuH κ x) s 0) : nuN κ x < 2 ^ (31 * (nuK κ x - 1) + s) ∧ (0 < nuN κ x → 1 ≤ 31 * (nuK κ x - 1) + s ∧ 2 ^ (31 * (nuK κ x - 1) + s - 1) ≤ nuN κ x) := by
  have f := btI_e h
  by_cases z : nuK κ x = 0
  · have n := (nuK_z I).mp z
    rw [n]
    exact ⟨Nat.pow_pos (by decide), fun y => absurd y (Nat.lt_irrefl _)⟩
  · have e : nuH κ x = (zA κ (zR κ nuLimbs x) (nuK κ x - 1)).toNatClampNeg := if_neg z
    have k := nuK_i I.1
    have t := I.2 (by omega)
    have ek : ((zI κ nuLength x).toInt - 1).toNat = nuK κ x - 1 := by omega
    rw [ek] at t
    have kt := cnk (x := zA κ (zR κ nuLimbs x) (nuK κ x - 1)) (by omega)
    have v : nuN κ x = uV (zA κ (zR κ nuLimbs x)) (nuK κ x - 1) + nuH κ x * 2147483648 ^ (nuK κ x - 1) := by
      have e9 : nuK κ x = nuK κ x - 1 + 1 := by omega
      rw [e]
      show uV _ (nuK κ x) = uV _ (nuK κ x - 1 + 1)
      rw [← e9]
    have l := uV_lt (f := zA κ (zR κ nuLimbs x)) (n := nuK κ x - 1)
    rw [p31_2] at l v
    have m1 := Nat.mul_le_mul_right (2 ^ (31 * (nuK κ x - 1))) f.1
    rw [Nat.succ_mul, ← Nat.pow_add, Nat.add_comm s] at m1
    refine ⟨by omega, fun _ => ?_⟩
    have g := f.2 (by omega)
    have m2 := Nat.mul_le_mul_right (2 ^ (31 * (nuK κ x - 1))) g.2
    rw [← Nat.pow_add] at m2
    have e8 : s - 1 + 31 * (nuK κ x - 1) = 31 * (nuK κ x - 1) + s - 1 := by omega
    rw [e8] at m2
    exact ⟨by omega, by omega⟩
theorem Nu_bits_c {C : zC} {n0 : Nat} {a0 : Nat} {κ : zS} {Q : Int32 → zS → Prop} (W : zW C n0 κ) (Ta0 : zT κ a0 = 8) (c9 : Nat) (hp : nuI κ a0 c9 ∧ c9 ≤ 30000000) (h : ∀ (v : Int32), ((0 ≤ v.toInt ∧ v.toInt ≤ 31 * nuK κ a0) ∧ nuN κ a0 < 2 ^ v.toInt.toNat ∧ (0 < nuN κ a0 → 1 ≤ v.toInt ∧ 2 ^ (v.toInt.toNat - 1) ≤ nuN κ a0)) → Q v κ) : zRun C 0 mNu_bits [.ref a0] κ (oI Q noX) := by
  refine Nu_bits_run W Ta0 ?_
  replace W := W.lo (Nat.le_trans W.1.2.1 W.1.2.2) (Nat.le_refl (zn κ))
  unfold w_Nu_bits_0
  obtain ⟨I0, p1⟩ := hp
  have k0 := nuK_i I0.1
  have lb := I0.1.1
  have lr := I0.1.2.1
  have hH : nuH κ a0 < 2147483648 := by
    unfold nuH
    split
    · decide
    · exact lim31 _
  have hs : ∀ s r, btI (nuH κ a0) s r → s ≤ 31 := fun s r h => btI_b h hH
  have hh44 : ∀ (l0 : Nat) (l1 : Int32) (l2 : Int32) (τ : zS), zW C (zn κ) τ → zT τ l0 = 8 → (κ = τ ∧ a0 = l0 ∧ 0 ≤ l2.toInt ∧ ∃ s : Nat, l1.toInt = 31 * ((nuK κ a0 - 1 : Nat) : Int) + s ∧ btI (nuH κ a0) s l2.toInt.toNat) → w_Nu_bits_44 C (zn κ) Q  l0 l1 l2 τ := by
    intro z0 z1 z2 τi Wi _ hinit
    unfold w_Nu_bits_44
    refine ⟨fun n l0 l1 l2 τ => n = l2.toInt.toNat ∧ (κ = τ ∧ a0 = l0 ∧ 0 ≤ l2.toInt ∧ ∃ s : Nat, l1.toInt = 31 * ((nuK κ a0 - 1 : Nat) : Int) + s ∧ btI (nuH κ a0) s l2.toInt.toNat), ⟨_, rfl, hinit⟩, ?_⟩
    clear hinit
    rintro n44 _ x44_1 x44_2 _ W44 T44_0 ⟨hn44, rfl, rfl, i44⟩
    obtain ⟨c44, s, e44, J44⟩ := i44
    have sb := hs _ _ J44
    refine ⟨fun c1 => ?_, fun c1 => ?_⟩
    · skip
      refine h _ ?_
      · rw [lei, t0i] at c1
        have e : x44_2.toInt.toNat = 0 := by omega
        rw [e] at J44
        have f := nuH_e I0 J44
        have ev : x44_1.toInt.toNat = 31 * (nuK κ a0 - 1) + s := by omega
        have zz : nuK κ a0 = 0 → s = 0 := fun z => by
          rcases J44.2 with y | y
          · exact y
          · have : nuH κ a0 = 0 := if_pos z
            have p : 0 < 2 ^ (s - 1) := Nat.pow_pos (by decide)
            omega
        refine ⟨⟨by omega, ?_⟩, by rw [ev]; exact f.1, fun z => ?_⟩
        · by_cases y : nuK κ a0 = 0
          · have := zz y
            omega
          · omega
        · have := f.2 z
          rw [ev]
          exact ⟨by omega, this.2⟩
    · skip
      intro x2 hx2
      intro x3 hx3
      refine ⟨_, ?_, rfl, ?_⟩
      · rw [lei, t0i] at c1
        rw [hn44, hx3, i_sh1]
        omega
      · rw [lei, t0i] at c1
        have e1 : x2.toInt = x44_1.toInt + 1 := by rw [hx2, add_i (by rw [t1i]; omega) (by rw [t1i]; omega), t1i]
        have e2 : x3.toInt = x44_2.toInt / 2 := by rw [hx3, i_sh1]
        have s9 := btI_s J44 (by omega)
        have e4 : x3.toInt.toNat = x44_2.toInt.toNat / 2 := by omega
        exact ⟨rfl, rfl, by omega, s + 1, by omega, by rw [e4]; exact s9⟩
  have hj20 : ∀ (l0 : Nat) (s0 : Int32) (τ : zS), zW C (zn κ) τ → zT τ l0 = 8 → (κ = τ ∧ a0 = l0 ∧ s0.toInt = 31 * ((nuK κ a0 - 1 : Nat) : Int)) → w_Nu_bits_20 C (zn κ) Q  l0 s0 τ := by
    rintro _ y20_s0 _ W20 T20_0 ⟨rfl, rfl, j20⟩
    unfold w_Nu_bits_20
    refine ⟨fun c4 => ?_, fun c4 => ?_⟩
    · skip
      refine hh44 _ _ _ _ W20 (by assumption) ?_
      · rw [lei, t0i] at c4
        have e : nuH κ a0 = 0 := if_pos (by omega)
        exact ⟨rfl, rfl, by decide, 0, by omega, by rw [e]; rfl, Or.inl rfl⟩
    · skip
      rw [lei, t0i] at c4
      have d5 := dec_i (x := zI κ nuLength a0) (by omega)
      have kd := cnk (x := zI κ nuLength a0 - 1) (by omega)
      have g5 := I0.1.2.2 (zI κ nuLength a0 - 1).toNatClampNeg (by omega)
      have kg := cnk g5
      refine ⟨?_, ?_⟩
      · rw [inb_iff]; omega  -- b5
      intro x5 hx5
      refine hh44 _ _ _ _ W20 (by assumption) ?_
      · have e : nuH κ a0 = (zA κ (zR κ nuLimbs a0) (nuK κ a0 - 1)).toNatClampNeg := if_neg (by omega)
        have e2 : (zI κ nuLength a0 - 1).toNatClampNeg = nuK κ a0 - 1 := by omega
        rw [e2] at hx5 g5 kg
        rw [hx5]
        refine ⟨rfl, rfl, g5, 0, by omega, ?_, Or.inl rfl⟩
        rw [e, Nat.pow_zero, Nat.div_one]
        omega
  refine ⟨fun c6 => ?_, fun c6 => ?_⟩
  · skip
    refine hj20 _ _ _ W ?_ ?_
    · exact Ta0  -- t7
    · rw [lei, t0i] at c6
      exact ⟨rfl, rfl, by rw [t0i]; omega⟩
  · skip
    refine hj20 _ _ _ W ?_ ?_
    · exact Ta0  -- t9
    · rw [lei, t0i] at c6
      have d5 := dec_i (x := zI κ nuLength a0) (by omega)
      have t31 : (31 : Int32).toInt = 31 := rfl
      refine ⟨rfl, rfl, ?_⟩
      rw [mul_i (by rw [d5, t31]; omega) (by rw [d5, t31]; omega), d5, t31]
      omega

theorem Nu_words_c {C : zC} {n0 : Nat} {a0 : Nat} {κ : zS} {Q : Int32 → zS → Prop} (W : zW C n0 κ) (Ta0 : zT κ a0 = 8) (c9 : Nat) (hp : nuI κ a0 c9 ∧ c9 ≤ 30000000) (h : ∀ (v : Int32), (0 ≤ v.toInt) → Q v κ) : zRun C 1 mNu_words [.ref a0] κ (oI Q noX) := by
  refine Nu_words_run W Ta0 ?_
  replace W := W.lo (Nat.le_trans W.1.2.1 W.1.2.2) (Nat.le_refl (zn κ))
  unfold w_Nu_words_0
  intro T1
  refine Nu_bits_c W T1 c9 ?_ (fun r2 q4 => ?_)
  · exact hp  -- p1
  intro W5
  intro M6
  refine ⟨?_, ?_⟩
  · decide  -- b2
  refine h _ ?_
  · have k := nuK_i hp.1.1
    have l1 := hp.1.1.1
    have l2 := hp.1.1.2.1
    have l3 := hp.2
    have l4 := q4.1
    have t31 : (31 : Int32).toInt = 31 := rfl
    have e : (r2 + 31).toInt = r2.toInt + 31 := by rw [add_i (by rw [t31]; omega) (by rw [t31]; omega), t31]
    rw [div_i (by rw [e]; omega) (by decide), e]
    exact Int.ediv_nonneg (by omega) (by decide)

theorem Nu_word_c {C : zC} {n0 : Nat} {a0 : Nat} {a1 : Int32} {κ : zS} {Q : Int32 → zS → Prop} (W : zW C n0 κ) (Ta0 : zT κ a0 = 8) (c9 : Nat) (hp : nuB κ a0 c9) (h : ∀ (v : Int32), (True) → Q v κ) : zRun C 0 mNu_word [.ref a0, .int a1] κ (oI Q noX) := by
  refine Nu_word_run W Ta0 ?_
  replace W := W.lo (Nat.le_trans W.1.2.1 W.1.2.2) (Nat.le_refl (zn κ))
  unfold w_Nu_word_0
  have lb := hp.1
  have hj70 : ∀ (l0 : Nat) (l3 : Int32) (l4 : Int64) (s0 : Int64) (τ : zS), zW C (zn κ) τ → zT τ l0 = 8 → (κ = τ ∧ a0 = l0 ∧ True) → w_Nu_word_70 C (zn κ) Q  l0 l3 l4 s0 τ := by
    rintro _ y70_3 y70_4 y70_s0 _ W70 T70_0 ⟨rfl, rfl, j70⟩
    unfold w_Nu_word_70
    refine h _ ?_
    · trivial  -- q1
  have hj39 : ∀ (l0 : Nat) (l2 : Int32) (l3 : Int32) (s0 : Int64) (τ : zS), zW C (zn κ) τ → zT τ l0 = 8 → (κ = τ ∧ a0 = l0 ∧ True) → w_Nu_word_39 C (zn κ) Q  l0 l2 l3 s0 τ := by
    rintro _ y39_2 y39_3 y39_s0 _ W39 T39_0 ⟨rfl, rfl, j39⟩
    unfold w_Nu_word_39
    refine ⟨fun c1 => ?_, fun c1 => ?_⟩
    · skip
      refine hj70 _ _ _ _ _ W39 ?_ ?_
      · exact T39_0  -- t2
      · exact ⟨rfl, rfl, trivial⟩  -- k3
    · skip
      refine ⟨fun c2 => ?_, fun c2 => ?_⟩
      · skip
        refine hj70 _ _ _ _ _ W39 ?_ ?_
        · exact T39_0  -- t4
        · exact ⟨rfl, rfl, trivial⟩  -- k5
      · skip
        refine ⟨?_, ?_⟩
        · rw [lti, t0i] at c1
          rw [lei] at c2
          rw [inb_iff]; omega
        refine hj70 _ _ _ _ _ W39 ?_ ?_
        · exact T39_0  -- t7
        · exact ⟨rfl, rfl, trivial⟩  -- k8
  refine ⟨?_, ?_⟩
  · decide  -- b9
  intro x3 hx3
  refine ⟨?_, ?_⟩
  · decide  -- b10
  intro x4 hx4
  refine ⟨fun c5 => ?_, fun c5 => ?_⟩
  · skip
    refine hj39 _ _ _ _ _ W ?_ ?_
    · exact Ta0  -- t11
    · exact ⟨rfl, rfl, trivial⟩  -- k12
  · skip
    refine ⟨fun c6 => ?_, fun c6 => ?_⟩
    · skip
      refine hj39 _ _ _ _ _ W ?_ ?_
      · exact Ta0  -- t13
      · exact ⟨rfl, rfl, trivial⟩  -- k14
    · skip
      refine ⟨?_, ?_⟩
      · rw [lti, t0i] at c5
        rw [lei] at c6
        rw [inb_iff]; omega
      refine hj39 _ _ _ _ _ W ?_ ?_
      · exact Ta0  -- t16
      · exact ⟨rfl, rfl, trivial⟩  -- k17

end
