set_option maxHeartbeats 1600000
/-! the class: division, its numbers -/
theorem nuB_mono {κ : zS} {x c d : Nat} (l : c ≤ d) (h : nuB κ x c) : nuB κ x d := ⟨h.1, ⟨h.2.1.1, Nat.le_trans h.2.1.2 l⟩, h.2.2⟩
theorem nuI_mono {κ : zS} {x c d : Nat} (l : c ≤ d) (h : nuI κ x c) : nuI κ x d := ⟨nuB_mono l h.1, h.2⟩
/-- room for limbs -/
abbrev nuC (κ : zS) (x c : Nat) : Prop := 2 ≤ (zN κ (zR κ nuLimbs x)) ∧ (zN κ (zR κ nuLimbs x)) ≤ c
/-- some numbers alone -/
abbrev nuFp (P : Nat → Prop) : Nat → Nat → Prop := fun f b => P b ∧ (f = nuLimbs ∨ f = nuLength)
theorem nuFp_m {P : Nat → Prop} {x : Nat} {κ τ : zS} (h : P x) (Z : zF (nuF x) κ τ) : zF (nuFp P) κ τ := Z.mono (fun f b z => ⟨z.1 ▸ h, z.2⟩)
theorem nuFp_p {P P' : Nat → Prop} {κ τ : zS} (h : ∀ b, P b → P' b) (Z : zF (nuFp P) κ τ) : zF (nuFp P') κ τ := Z.mono (fun f b z => ⟨h b z.1, z.2⟩)
theorem nuFp_r {P : Nat → Prop} {f b : Nat} {κ τ : zS} (Z : zF (nuFp P) κ τ) (h1 : f ≠ nuLimbs) (h2 : f ≠ nuLength) : zR τ f b = zR κ f b := Z.r (fun z => z.2.elim h1 h2)
theorem nuF_r {x f b : Nat} {κ τ : zS} (Z : zF (nuF x) κ τ) (h1 : f ≠ nuLimbs) (h2 : f ≠ nuLength) : zR τ f b = zR κ f b := Z.r (fun z => z.2.elim h1 h2)
theorem nuFp_z {C : zC} {n0 y : Nat} {P : Nat → Prop} {κ τ : zS} (W : zW C n0 κ) (T : zT κ y = 8) (Z : zF (nuFp P) κ τ) (h : ¬ P y) : zI τ nuLength y = zI κ nuLength y ∧ zR τ nuLimbs y = zR κ nuLimbs y ∧ zA τ (zR κ nuLimbs y) = zA κ (zR κ nuLimbs y) ∧ zN τ (zR κ nuLimbs y) = zN κ (zR κ nuLimbs y) := nu_z W T Z (fun z => h z.1) (fun z => h z.1)
theorem nuFp_B {C : zC} {n0 y c : Nat} {P : Nat → Prop} {κ τ : zS} (W : zW C n0 κ) (T : zT κ y = 8) (Z : zF (nuFp P) κ τ) (h : ¬ P y) : (nuB κ y c → nuB τ y c) ∧ (nuI κ y c → nuI τ y c) ∧ nuN τ y = nuN κ y ∧ nuK τ y = nuK κ y := nuB_z W T Z (fun z => h z.1) (fun z => h z.1)
theorem nuFp_C {C : zC} {n0 y c : Nat} {P : Nat → Prop} {κ τ : zS} (W : zW C n0 κ) (T : zT κ y = 8) (Z : zF (nuFp P) κ τ) (h : ¬ P y) (hc : nuC κ y c) : nuC τ y c := by
  obtain ⟨_, b, _, d⟩ := nuFp_z W T Z h
  unfold nuC
  rw [b, d]
  exact hc
/-- only limbs of some numbers were written -/
def nuEp (P : Nat → Prop) (κ τ : zS) : Prop := zF (nuFp P) κ τ ∧ zR τ = zR κ ∧ zI τ = zI κ ∧ zN τ = zN κ
theorem nuEp.rf {P : Nat → Prop} {κ : zS} : nuEp P κ κ := ⟨zF.rf, rfl, rfl, rfl⟩
theorem nuEp.tr {P : Nat → Prop} {κ τ σ : zS} (h : nuEp P κ τ) (g : nuEp P τ σ) : nuEp P κ σ := ⟨h.1.tr g.1, g.2.1.trans h.2.1, g.2.2.1.trans h.2.2.1, g.2.2.2.trans h.2.2.2⟩
theorem nuE.up {P : Nat → Prop} {κ τ : zS} {x : Nat} (h : nuE κ τ x) (p : P x) : nuEp P κ τ := ⟨nuFp_m p h.1, h.2⟩
theorem uV_split {f : Nat → Int32} {a : Nat} : ∀ {b : Nat}, uV f (a + b) = uV f a + uV (uW f a) b * 2147483648 ^ a
  | 0 => by
    show uV f a = uV f a + 0 * _
    omega
  | b + 1 => by
    show uV f (a + b) + (f (a + b)).toNatClampNeg * 2147483648 ^ (a + b) = uV f a + (uV (uW f a) b + (uW f a b).toNatClampNeg * 2147483648 ^ b) * 2147483648 ^ a
    rw [uV_split (b := b), Nat.add_mul, Nat.pow_add, Nat.mul_comm (2147483648 ^ a) (2147483648 ^ b), Nat.mul_assoc]
    show _ + (f (a + b)).toNatClampNeg * _ = _ + (_ + (f (a + b)).toNatClampNeg * _)
    omega
theorem uW_1 {f : Nat → Int32} {p : Nat} : uW (uW f p) 1 = uW f (p + 1) := by
  funext j
  show f (p + (1 + j)) = f (p + 1 + j)
  rw [Nat.add_assoc]
theorem uW_0 {f : Nat → Int32} : uW f 0 = f := by
  funext j
  show f (0 + j) = f j
  rw [Nat.zero_add]
theorem uV_f {f : Nat → Int32} {p n : Nat} : uV (uW f p) (n + 1) = (f p).toNatClampNeg + 2147483648 * uV (uW f (p + 1)) n := by
  rw [Nat.add_comm n 1, uV_split, uW_1, uV_1]
  show (f (p + 0)).toNatClampNeg + _ * 2147483648 ^ 1 = (f p).toNatClampNeg + _
  rw [Nat.add_zero, Nat.pow_one, Nat.mul_comm]
/-- a division on its way: places p .. are done -/
def dwI (X0 X Qf D : Nat → Int32) (m L p : Nat) : Prop := p + m ≤ L ∧ uV X L + uV D m * (uV (uW Qf p) (L - m - p) * 2147483648 ^ p) = uV X0 L ∧ (∀ j, j < L → 0 ≤ (X j).toInt) ∧ uV (uW X p) m < uV D m ∧ (∀ j, p + m ≤ j → j < L → X j = 0) ∧ ∀ j, p ≤ j → j < L - m → 0 ≤ (Qf j).toInt
theorem dwI_R {X0 X Qf D : Nat → Int32} {m L p : Nat} (h : dwI X0 X Qf D m L (p + 1)) : uV (uW X p) (m + 1) < 2147483648 * uV D m := by
  have l := lim31 (X p)
  have s := h.2.2.2.1
  rw [uV_f]
  have := Nat.mul_le_mul_left 2147483648 s
  rw [Nat.mul_succ] at this
  omega
theorem dw_ar {A R q r S Q b p : Nat} (e : S * q + r = R) : A + r * p + S * ((q + b * Q) * p) = A + R * p + S * (Q * (b * p)) := by
  rw [← e, Nat.add_mul, Nat.add_mul, Nat.mul_add, Nat.mul_assoc S q p, Nat.mul_left_comm Q b p, Nat.mul_assoc b Q p]
  omega
theorem dwI_s {X0 X X' Qf Qf' D : Nat → Int32} {m L p : Nat} {v : Int32} (h : dwI X0 X Qf D m L (p + 1)) (h1 : uV (uW X' p) (m + 1) = uV (uW X p) (m + 1) % uV D m) (h2 : ∀ j, j < m + 1 → 0 ≤ (uW X' p j).toInt) (h3 : ∀ j, (j < p ∨ p + m < j) → X' j = X j) (e : Qf' = upd Qf p v) (hv : v.toNatClampNeg = uV (uW X p) (m + 1) / uV D m) (hv0 : 0 ≤ v.toInt) : dwI X0 X' Qf' D m L p := by
  obtain ⟨g1, g2, g3, g4, g5, g6⟩ := h
  have S0 : 0 < uV D m := by omega
  have ml := Nat.mod_lt (uV (uW X p) (m + 1)) S0
  have top : uV (uW X' p) (m + 1) = uV (uW X' p) m + (X' (p + m)).toNatClampNeg * 2147483648 ^ m := rfl
  have lS := uV_lt (f := D) (n := m)
  have tz : (X' (p + m)).toNatClampNeg = 0 := by
    refine Nat.eq_zero_of_not_pos (fun z => ?_)
    have := Nat.mul_le_mul_right (2147483648 ^ m) z
    omega
  have x0 : X' (p + m) = 0 := by
    have a := h2 m (Nat.lt_succ_self m)
    have a2 : 0 ≤ (X' (p + m)).toInt := a
    have k := cnk a2
    exact Int32.toInt_inj.mp (by rw [t0i]; omega)
  have eL : ∀ (Y : Nat → Int32), (∀ j, p + (m + 1) ≤ j → j < L → Y j = 0) → uV Y L = uV Y p + uV (uW Y p) (m + 1) * 2147483648 ^ p := fun Y hY => by
    rw [uV_pad (k := p + (m + 1)) (by omega) hY, uV_split]
  have a1 := eL X (fun j hj hl => g5 j (by omega) hl)
  have a2 := eL X' (fun j hj hl => by rw [h3 j (by omega)]; exact g5 j (by omega) hl)
  have low : uV X' p = uV X p := uV_e (fun j hj => h3 j (Or.inl hj))
  have qp : Qf' p = v := by rw [e]; exact if_pos rfl
  have eq : uV (uW Qf' p) (L - m - p) = v.toNatClampNeg + 2147483648 * uV (uW Qf (p + 1)) (L - m - (p + 1)) := by
    have e9 : L - m - p = L - m - (p + 1) + 1 := by omega
    rw [e9, uV_f, qp]
    congr 2
    exact uV_e (fun j hj => by
      show Qf' (p + 1 + j) = Qf (p + 1 + j)
      rw [e]
      exact if_neg (by omega))
  refine ⟨by omega, ?_, fun j hj => ?_, ?_, fun j hj hl => ?_, fun j hj hl => ?_⟩
  · rw [a2, low, h1, eq, hv, dw_ar (Nat.div_add_mod _ _), ← a1, ← p31_s]
    exact g2
  · by_cases z : j < p ∨ p + m < j
    · rw [h3 j z]; exact g3 j hj
    · have q := h2 (j - p) (by omega)
      have e8 : uW X' p (j - p) = X' j := by
        show X' (p + (j - p)) = X' j
        congr 1
        omega
      rw [e8] at q
      exact q
  · omega
  · by_cases z : j = p + m
    · rw [z]; exact x0
    · rw [h3 j (by omega)]; exact g5 j (by omega) hl
  · rw [e]
    by_cases z : j = p
    · have : upd Qf p v j = v := if_pos z
      rw [this]; exact hv0
    · have : upd Qf p v j = Qf j := if_neg z
      rw [this]; exact g6 j (by omega) hl
theorem dwI_0 {X0 Qf D : Nat → Int32} {m L A S q K : Nat} (hm : m ≤ L) (hX : ∀ j, j < L → 0 ≤ (X0 j).toInt) (hA : uV X0 L = A * q) (hS : uV D m = S * q) (hq : 0 < q) (hk : A < 2147483648 ^ K) (hs : 2147483648 ^ K ≤ S * 2147483648 ^ (L - m)) : dwI X0 X0 Qf D m L (L - m) := by
  refine ⟨by omega, ?_, hX, ?_, fun j h1 h2 => absurd h1 (by omega), fun j h1 h2 => absurd h1 (by omega)⟩
  · rw [Nat.sub_self]
    show _ + _ * (0 * _) = _
    rw [Nat.zero_mul, Nat.mul_zero, Nat.add_zero]
  · refine Nat.lt_of_not_le (fun l => ?_)
    have sp := uV_split (f := X0) (a := L - m) (b := m)
    have e9 : L - m + m = L := by omega
    rw [e9, hA] at sp
    rw [hS] at l
    have m1 := Nat.mul_le_mul_right (2147483648 ^ (L - m)) l
    rw [Nat.mul_right_comm] at m1
    have m2 := Nat.mul_le_mul_right q hs
    have m3 := Nat.mul_le_mul_right q hk
    rw [Nat.succ_mul] at m3
    omega
theorem dwI_e {X0 X Qf D : Nat → Int32} {m L A S q : Nat} (h : dwI X0 X Qf D m L 0) (hA : uV X0 L = A * q) (hS : uV D m = S * q) (h0 : 0 < S) (hq : 0 < q) : uV Qf (L - m) = A / S ∧ uV X m / q = A % S := by
  obtain ⟨g1, g2, g3, g4, g5, g6⟩ := h
  rw [uW_0] at g2 g4
  rw [uV_pad (k := m) (by omega) (fun j h1 h2 => g5 j (by omega) h2), Nat.pow_zero, Nat.mul_one, Nat.sub_zero, hA, hS] at g2
  rw [hS] at g4
  have u := (Nat.div_mod_unique (a := A * q) (b := S * q) (c := uV X m) (d := uV Qf (L - m)) (Nat.mul_pos h0 hq)).mpr ⟨g2, g4⟩
  rw [Nat.mul_div_mul_right _ _ hq, Nat.mul_mod_mul_right] at u
  exact ⟨u.1.symm, by rw [← u.2]; exact Nat.mul_div_cancel _ hq⟩
/-- Knuth's guess is not too low -/
theorem kq_lo {R S R1 S1 w t h s p P q : Nat} (hR : R = R1 + w * P + t * p) (hS : S = S1 + h * P + s * p) (hP : P = 2147483648 * p) (h1 : R1 < p) (ht : t < 2147483648) (hq : q * S ≤ R) (hh : 0 < h) : q ≤ w / h := by
  rw [Nat.le_div_iff_mul_le hh]
  refine Nat.le_of_not_lt (fun l => ?_)
  have a := Nat.mul_le_mul_right P l
  rw [Nat.succ_mul] at a
  have b : q * S = q * S1 + q * h * P + q * s * p := by rw [hS, Nat.mul_add, Nat.mul_add, Nat.mul_assoc, Nat.mul_assoc]
  have c := Nat.mul_le_mul_right p ht
  rw [Nat.succ_mul, ← hP] at c
  omega
theorem kq_up {R S R1 S1 w t h s p P g : Nat} (hR : R = R1 + w * P + t * p) (hS : S = S1 + h * P + s * p) (hP : P = 2147483648 * p) (h1 : S1 < p) (hs : s < 2147483648) (hg : g * h ≤ w) (gl : g < 2147483648) (hh : 1073741824 ≤ h) : g * S < R + 2 * S := by
  have b : g * S = g * S1 + g * h * P + g * s * p := by rw [hS, Nat.mul_add, Nat.mul_add, Nat.mul_assoc, Nat.mul_assoc]
  have c := Nat.mul_le_mul_right p hs
  rw [Nat.succ_mul, ← hP] at c
  have d := Nat.mul_le_mul_left g (show S1 + s * p ≤ P by omega)
  rw [Nat.mul_add, ← Nat.mul_assoc] at d
  have e := Nat.mul_le_mul_right P hg
  have f := Nat.mul_le_mul_right P hh
  have k := Nat.mul_le_mul_right P gl
  rw [Nat.succ_mul] at k
  omega
theorem kq_dn {R S R1 S1 w t h s p P g : Nat} (hR : R = R1 + w * P + t * p) (hS : S = S1 + h * P + s * p) (hP : P = 2147483648 * p) (h1 : R1 < p) (hg : g * h ≤ w) (c : (w - g * h) * 2147483648 + t < g * s) : R < g * S := by
  have b : g * S = g * S1 + g * h * P + g * s * p := by rw [hS, Nat.mul_add, Nat.mul_add, Nat.mul_assoc, Nat.mul_assoc]
  have d := Nat.mul_le_mul_right p c
  rw [Nat.succ_mul, Nat.add_mul, Nat.mul_assoc, ← hP, Nat.sub_mul] at d
  have e := Nat.mul_le_mul_right P hg
  omega
theorem kq_ex {R S R1 S1 w t h s p P g : Nat} (hR : R = R1 + w * P + t * p) (hS : S = S1 + h * P + s * p) (hP : P = 2147483648 * p) (h1 : S1 < p) (hs : s < 2147483648) (hg : g * h ≤ w) (gl : g < 2147483648) (hh : 0 < h) (c : 2147483648 ≤ w - g * h ∨ g * s ≤ (w - g * h) * 2147483648 + t) : g * S < R + S := by
  have b : g * S = g * S1 + g * h * P + g * s * p := by rw [hS, Nat.mul_add, Nat.mul_add, Nat.mul_assoc, Nat.mul_assoc]
  have e := Nat.mul_le_mul_right P hg
  have k : g * S1 ≤ g * p := Nat.mul_le_mul_left g (by omega)
  have k2 := Nat.mul_le_mul_right p gl
  rw [Nat.succ_mul, ← hP] at k2
  have k3 := Nat.mul_le_mul_right P hh
  rw [Nat.succ_mul, Nat.zero_mul] at k3
  have cl : g * h * P + g * s * p ≤ w * P + t * p := by
    rcases c with c | c
    · have c1 := Nat.mul_le_mul_right P c
      rw [Nat.sub_mul] at c1
      have c2 : g * s * p ≤ 2147483648 * 2147483648 * p := Nat.mul_le_mul_right p (Nat.mul_le_mul (by omega) (by omega))
      rw [Nat.mul_assoc 2147483648, ← hP] at c2
      omega
    · have c1 := Nat.mul_le_mul_right p c
      rw [Nat.add_mul, Nat.mul_assoc (w - g * h), ← hP, Nat.sub_mul] at c1
      omega
  omega
theorem kq_q {R S g k : Nat} (hS : 0 < S) (h : g * S < R + k * S) : g ≤ R / S + k := by
  refine Nat.le_of_not_lt (fun l => ?_)
  have a := Nat.lt_div_mul_add (a := R) hS
  have b := Nat.mul_le_mul_right S l
  rw [Nat.succ_mul, Nat.add_mul] at b
  omega
/-- a number by its two or three highest limbs -/
theorem kw_S {D : Nat → Int32} {m : Nat} (h : 2 ≤ m) : uV D m = uV D (m - 2) + (D (m - 1)).toNatClampNeg * (2147483648 * 2147483648 ^ (m - 2)) + (D (m - 2)).toNatClampNeg * 2147483648 ^ (m - 2) := by
  have e : m = m - 2 + 1 + 1 := by omega
  have e1 : m - 1 = m - 2 + 1 := by omega
  rw [e1]
  conv => lhs; rw [e]
  show uV D (m - 2) + (D (m - 2)).toNatClampNeg * 2147483648 ^ (m - 2) + (D (m - 2 + 1)).toNatClampNeg * 2147483648 ^ (m - 2 + 1) = _
  rw [p31_s]
  omega
theorem kw_R {D : Nat → Int32} {m : Nat} (h : 2 ≤ m) : uV D (m + 1) = uV D (m - 2) + ((D m).toNatClampNeg * 2147483648 + (D (m - 1)).toNatClampNeg) * (2147483648 * 2147483648 ^ (m - 2)) + (D (m - 2)).toNatClampNeg * 2147483648 ^ (m - 2) := by
  show uV D m + (D m).toNatClampNeg * 2147483648 ^ m = _
  have e : (2147483648 : Nat) ^ m = 2147483648 * (2147483648 * 2147483648 ^ (m - 2)) := by
    have e9 : m = m - 2 + 1 + 1 := by omega
    conv => lhs; rw [e9]
    rw [p31_s, p31_s]
  rw [kw_S h, e, Nat.add_mul, Nat.mul_assoc]
  omega
/-- the divisor fills its highest limb -/
theorem nz_s {D : Nat → Int32} {m N t v s : Nat} (hm : 0 < m) (hN : uV D (m + 1) = N * 2 ^ s) (hs : s + v = 31) (hv : 1 ≤ v) (h1 : t < 2 ^ v) (h2 : 2 ^ (v - 1) ≤ t) (hl : t * 2147483648 ^ (m - 1) ≤ N) (hu : N < (t + 1) * 2147483648 ^ (m - 1)) : uV D m = N * 2 ^ s ∧ 1073741824 ≤ (D (m - 1)).toNatClampNeg := by
  have eB : 2 ^ v * 2 ^ s = 2147483648 := by
    rw [← Nat.pow_add]
    have : v + s = 31 := by omega
    rw [this]
  have eH : 2 ^ (v - 1) * 2 ^ s = 1073741824 := by
    rw [← Nat.pow_add]
    have : v - 1 + s = 30 := by omega
    rw [this]
  have em : (2147483648 : Nat) ^ m = 2147483648 * 2147483648 ^ (m - 1) := by
    have e9 : m = m - 1 + 1 := by omega
    conv => lhs; rw [e9]
    rw [p31_s]
  have u1 : N * 2 ^ s < 2147483648 ^ m := by
    have a := Nat.mul_le_mul_right (2147483648 ^ (m - 1)) h1
    have b : N < 2 ^ v * 2147483648 ^ (m - 1) := Nat.lt_of_lt_of_le hu a
    have c := Nat.mul_lt_mul_of_pos_right b (Nat.pow_pos (by decide) : 0 < 2 ^ s)
    rw [Nat.mul_right_comm, eB, ← em] at c
    exact c
  have dz : (D m).toNatClampNeg = 0 := by
    refine Nat.eq_zero_of_not_pos (fun z => ?_)
    have a := Nat.mul_le_mul_right (2147483648 ^ m) z
    have b : uV D (m + 1) = uV D m + (D m).toNatClampNeg * 2147483648 ^ m := rfl
    omega
  have e1 : uV D m = N * 2 ^ s := by
    have b : uV D (m + 1) = uV D m + (D m).toNatClampNeg * 2147483648 ^ m := rfl
    rw [dz, Nat.zero_mul] at b
    omega
  refine ⟨e1, ?_⟩
  have l1 : 1073741824 * 2147483648 ^ (m - 1) ≤ uV D m := by
    have a := Nat.mul_le_mul_right (2 ^ s) hl
    have b := Nat.mul_le_mul_right (2147483648 ^ (m - 1) * 2 ^ s) h2
    rw [e1]
    rw [Nat.mul_comm (2147483648 ^ (m - 1)), ← Nat.mul_assoc, ← Nat.mul_assoc, eH, Nat.mul_right_comm] at b
    omega
  have l2 : uV D m = uV D (m - 1) + (D (m - 1)).toNatClampNeg * 2147483648 ^ (m - 1) := by
    have e9 : m = m - 1 + 1 := by omega
    conv => lhs; rw [e9]
    rfl
  have l3 := uV_lt (f := D) (n := m - 1)
  refine Nat.le_of_not_lt (fun z => ?_)
  have a := Nat.mul_le_mul_right (2147483648 ^ (m - 1)) (show (D (m - 1)).toNatClampNeg + 1 ≤ 1073741824 from z)
  rw [Nat.add_mul] at a
  omega
/-- a guess on its way -/
def gsI (w h q g o n : Nat) : Prop := g < 2147483648 ∧ o + g * h = w ∧ q ≤ g ∧ g + n ≤ q + 2
