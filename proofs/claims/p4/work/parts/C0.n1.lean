set_option maxHeartbeats 1600000
/-! the class: Num's times, plus, minus -/
theorem i_and {x : Int32} : (x &&& 2147483647).toInt = x.toInt % 2147483648 := by
  have e : (x &&& 2147483647).toBitVec.toNat = x.toBitVec.toNat % 2147483648 := by
    rw [Int32.toBitVec_and, BitVec.toNat_and, show (2147483647 : Int32).toBitVec.toNat = 2 ^ 31 - 1 from rfl, Nat.and_two_pow_sub_one_eq_mod]
  have t : (x &&& 2147483647).toInt = ((x &&& 2147483647).toBitVec.toNat : Int) := BitVec.toInt_eq_toNat_of_lt (by rw [e]; omega)
  have c : x.toInt = if 2 * x.toBitVec.toNat < 2 ^ 32 then (x.toBitVec.toNat : Int) else (x.toBitVec.toNat : Int) - (2 ^ 32 : Nat) := BitVec.toInt_eq_toNat_cond x.toBitVec
  rw [t, e]
  split at c <;> omega
theorem uV_pad {f : Nat → Int32} {k : Nat} : ∀ {n : Nat}, k ≤ n → (∀ i, k ≤ i → i < n → f i = 0) → uV f n = uV f k := by
  intro n
  induction n with
  | zero =>
    intro h _
    have : k = 0 := by omega
    rw [this]
  | succ n ih =>
    intro h z
    by_cases e : k = n + 1
    · rw [e]
    · have a := ih (by omega) (fun i h1 h2 => z i h1 (by omega))
      show uV f n + (f n).toNatClampNeg * 2147483648 ^ n = _
      rw [z n (by omega) (Nat.lt_succ_self n), a]
      show uV f k + 0 * _ = _
      omega
theorem p31_s {n : Nat} : 2147483648 ^ (n + 1) = 2147483648 * 2147483648 ^ n := by rw [Nat.pow_succ, Nat.mul_comm]
/-- only limbs were written -/
def nuE (κ τ : zS) (x : Nat) : Prop := zF (nuF x) κ τ ∧ zR τ = zR κ ∧ zI τ = zI κ ∧ zN τ = zN κ
theorem nuE.rf {κ : zS} {x : Nat} : nuE κ κ x := ⟨zF.rf, rfl, rfl, rfl⟩
theorem nuE.tr {κ τ σ : zS} {x : Nat} (h : nuE κ τ x) (g : nuE τ σ x) : nuE κ σ x := ⟨h.1.tr g.1, g.2.1.trans h.2.1, g.2.2.1.trans h.2.2.1, g.2.2.2.trans h.2.2.2⟩
theorem nu_u {C : zC} {n0 x i : Nat} {κ τ : zS} {v : Int32} (W : zW C n0 κ) (T : zT κ x = 8) (e : τ = ua κ (zR κ nuLimbs x) i v) : nuE κ τ x ∧ zA τ (zR κ nuLimbs x) = upd (zA κ (zR κ nuLimbs x)) i v ∧ zT τ x = 8 := by
  have o := W.o (show zr nuLimbs = some 20 by decide +kernel) (by decide) T
  exact ⟨⟨by rw [e]; exact zF_ua (by rw [o]; exact ⟨rfl, Or.inl rfl⟩), by rw [e]; rfl, by rw [e]; rfl, by rw [e]; rfl⟩, by rw [e]; exact if_pos rfl, by rw [e]; exact T⟩
/-- a product by a short number, limb by limb -/
def tmI (L M : Nat → Int32) (q i c : Nat) : Prop := uV M i + c * 2147483648 ^ i = uV L i * q ∧ c < 2147483648 ∧ (∀ j, j < i → 0 ≤ (M j).toInt) ∧ ∀ j, i ≤ j → M j = L j
theorem ar31 {q p D S c x v : Nat} (h : D + c * p = S * q) (hv : v = x * q + c) : D + v % 2147483648 * p + v / 2147483648 * (2147483648 * p) = (S + x * p) * q := by
  have m := Nat.div_add_mod v 2147483648
  have e : (2147483648 * (v / 2147483648) + v % 2147483648) * p = (x * q + c) * p := by rw [m, hv]
  rw [Nat.add_mul, Nat.add_mul] at e
  have f : v / 2147483648 * (2147483648 * p) = 2147483648 * (v / 2147483648) * p := by
    rw [← Nat.mul_assoc, Nat.mul_comm (v / 2147483648) 2147483648]
  rw [Nat.add_mul, Nat.mul_right_comm x p q]
  omega
theorem tmI_s {L M M' : Nat → Int32} {q i c : Nat} {x : Int32} (h : tmI L M q i c) (hq : q ≤ 2147483648) (ex : x.toInt = (((L i).toNatClampNeg * q + c : Nat) : Int) % 2147483648) (e : M' = upd M i x) : tmI L M' q (i + 1) (((L i).toNatClampNeg * q + c) / 2147483648) := by
  obtain ⟨h1, h2, h3, h4⟩ := h
  have l := lim31 (L i)
  have m : (L i).toNatClampNeg * q ≤ 2147483647 * 2147483648 := Nat.mul_le_mul (by omega) hq
  have kx := cnk (x := x) (by omega)
  have mi : M' i = x := by rw [e]; exact if_pos rfl
  have mj : ∀ j, j ≠ i → M' j = M j := fun j hj => by rw [e]; exact if_neg hj
  refine ⟨?_, by omega, fun j hj => ?_, fun j hj => ?_⟩
  · show uV M' i + (M' i).toNatClampNeg * 2147483648 ^ i + _ = (uV L i + (L i).toNatClampNeg * 2147483648 ^ i) * q
    rw [uV_e (g := M) (fun j hj => mj j (Nat.ne_of_lt hj)), mi, p31_s]
    have e9 : x.toNatClampNeg = ((L i).toNatClampNeg * q + c) % 2147483648 := by omega
    rw [e9]
    exact ar31 h1 rfl
  · by_cases z : j = i
    · rw [z, mi]; omega
    · rw [mj j z]; exact h3 j (by omega)
  · rw [mj j (by omega)]; exact h4 j (by omega)
theorem Nu_times_c {C : zC} {n0 : Nat} {a0 : Nat} {a1 : Int64} {κ : zS} {Q : zS → Prop} (W : zW C n0 κ) (Ta0 : zT κ a0 = 8) (c9 : Nat) (hp : nuI κ a0 c9 ∧ (0 ≤ a1.toInt ∧ a1.toInt ≤ 2147483648) ∧ nuK κ a0 + 1 + (nuK κ a0 + 1) / 2 + 1 ≤ c9 ∧ c9 ≤ 30000000) (h : ∀ (κ' : zS), (zF (nuF a0) κ κ' ∧ nuI κ' a0 c9 ∧ nuN κ' a0 = nuN κ a0 * a1.toInt.toNat) → Q κ') : zRun C 3 mNu_times [.ref a0, .long a1] κ (oV Q noX) := by
  refine Nu_times_run W Ta0 ?_
  replace W := W.lo (Nat.le_trans W.1.2.1 W.1.2.2) (Nat.le_refl (zn κ))
  unfold w_Nu_times_0
  obtain ⟨I0, p1, p2, p3⟩ := hp
  have k0 := nuK_i I0.1
  have lb := I0.1.1
  have lr := I0.1.2.1
  have e1 := cn1 (x := zI κ nuLength a0) lb.1 (by omega)
  refine ⟨fun c1 => ?_, fun c1 => ?_⟩
  · skip
    intro T2
    refine Nu_widen_c W T2  ?_ (fun κ_3 q4 => ?_)
    · exact ⟨by rw [e1.2]; omega, lr.1⟩  -- p1
    obtain ⟨F3, I3, R3, L3, A3⟩ := q4
    have T3 : zT κ_3 a0 = 8 := F3.t Ta0 (by decide)
    rw [e1.2] at L3
    intro W5
    intro M6
    unfold w_Nu_times_22
    refine ⟨fun n l0 l1 l3 l5 τ => n = (nuK κ a0 - l5.toInt.toNat) ∧ (a0 = l0 ∧ a1 = l1 ∧ nuE κ_3 τ a0 ∧ (0 ≤ l5.toInt ∧ l5.toInt ≤ nuK κ a0) ∧ 0 ≤ l3.toInt ∧ tmI (zA κ_3 (zR κ_3 nuLimbs a0)) (zA τ (zR κ_3 nuLimbs a0)) a1.toInt.toNat l5.toNatClampNeg l3.toInt.toNat), ⟨_, rfl, ?_⟩, ?_⟩
    · exact ⟨rfl, rfl, nuE.rf, ⟨by decide, by rw [t0i]; omega⟩, by decide, by
        show 0 + 0 * _ = 0 * _
        omega, by decide, fun j hj => absurd hj (Nat.not_lt_zero _), fun _ _ => rfl⟩
    rintro n22 _ _ x22_3 x22_5 κ22 W22 T22_0 ⟨hn22, rfl, rfl, i22⟩
    obtain ⟨E22, k22, c22, J22⟩ := i22
    have rs := E22.2.1
    have is := E22.2.2.1
    have ns := E22.2.2.2
    have kn := cnk k22.1
    refine ⟨fun c7 => ?_, fun c7 => ?_⟩
    · skip
      refine ⟨?_, ?_⟩
      · rw [rs, ns, is, I3, inb_iff]; omega  -- b3
      intro κ_8 hκ_8
      intro W9
      intro κ_10 hκ_10
      intro W11
      intro T12
      rw [lei, is, I3] at c7
      have kk : x22_5.toNatClampNeg = nuK κ a0 := by omega
      rw [kk] at J22
      obtain ⟨u1, u2, u3⟩ := nu_u W22 T22_0 hκ_8
      rw [rs] at u2
      have cb := J22.2.1
      have ec := j_i32 (x := x22_3) c22 (by omega)
      have kc := cnk (x := x22_3.toInt32) (by omega)
      have E8 := E22.tr u1
      have R10 : zR κ_10 = zR κ_3 := by rw [hκ_10]; exact E8.2.1
      have N10 : zN κ_10 = zN κ_3 := by rw [hκ_10]; exact E8.2.2.2
      have A10 : zA κ_10 = zA κ_8 := by rw [hκ_10]; rfl
      have Z10 : zF (nuF a0) κ κ_10 := (F3.tr E8.1).tr (by rw [hκ_10]; exact zF_ui ⟨rfl, Or.inr rfl⟩)
      have I10 : zI κ_10 nuLength a0 = zI κ nuLength a0 + 1 := by
        rw [hκ_10]
        refine (if_pos ⟨rfl, rfl⟩).trans ?_
        rw [E8.2.2.1, I3]
      have ix : (zI κ22 nuLength a0).toNatClampNeg = nuK κ a0 := by rw [is, I3]; rfl
      rw [ix] at u2
      have at9 : zA κ_8 (zR κ_3 nuLimbs a0) (nuK κ a0) = x22_3.toInt32 := by rw [u2]; exact if_pos rfl
      have al9 : ∀ j, j ≠ nuK κ a0 → zA κ_8 (zR κ_3 nuLimbs a0) j = zA κ22 (zR κ_3 nuLimbs a0) j := fun j hj => by rw [u2]; exact if_neg hj
      have B10 : nuB κ_10 a0 c9 := by
        refine ⟨?_, ?_, fun i hi => ?_⟩
        · rw [R10, N10, I10, e1.2]; omega
        · rw [R10, N10]; omega
        · rw [I10, e1.2] at hi
          rw [R10, A10]
          by_cases z : i = nuK κ a0
          · rw [z, at9]; omega
          · rw [al9 i z]; exact J22.2.2.1 i (by omega)
      have V10 : nuN κ_10 a0 = nuN κ a0 * a1.toInt.toNat := by
        unfold nuN
        rw [I10, e1.1, R10, A10]
        show uV _ (nuK κ a0) + (zA κ_8 (zR κ_3 nuLimbs a0) (nuK κ a0)).toNatClampNeg * 2147483648 ^ (nuK κ a0) = uV _ (nuK κ a0) * _
        rw [uV_e (fun j hj => al9 j (Nat.ne_of_lt hj)), at9]
        have e9 : x22_3.toInt32.toNatClampNeg = x22_3.toInt.toNat := by omega
        rw [e9, J22.1]
        congr 1
        exact uV_e (fun j hj => A3 j (by omega))
      refine Nu_trim_c W11 T12 c9 ?_ (fun κ_13 q14 => ?_)
      · exact B10  -- p4
      intro W15
      intro M16
      refine h _ ?_
      · exact ⟨Z10.tr q14.1.1, q14.2.1, by rw [q14.2.2.1]; exact V10⟩  -- q5
    · skip
      rw [lei, is, I3] at c7
      have lj := I0.1.2.2 x22_5.toNatClampNeg (by omega)
      have lj3 : zA κ_3 (zR κ_3 nuLimbs a0) x22_5.toNatClampNeg = zA κ (zR κ nuLimbs a0) x22_5.toNatClampNeg := A3 _ (by omega)
      have ljt : zA κ22 (zR κ_3 nuLimbs a0) x22_5.toNatClampNeg = zA κ (zR κ nuLimbs a0) x22_5.toNatClampNeg := (J22.2.2.2 _ (Nat.le_refl _)).trans lj3
      have kl := cnk lj
      have hl := ihi (zA κ (zR κ nuLimbs a0) x22_5.toNatClampNeg)
      have cb := J22.2.1
      have m1 : (zA κ (zR κ nuLimbs a0) x22_5.toNatClampNeg).toNatClampNeg * a1.toInt.toNat ≤ 2147483647 * 2147483648 := Nat.mul_le_mul (by omega) (by omega)
      refine ⟨?_, ?_⟩
      · rw [rs, ns, inb_iff]; omega  -- b6
      intro x17 hx17
      rw [rs, ljt] at hx17
      have e64 : ((zA κ (zR κ nuLimbs a0) x22_5.toNatClampNeg).toInt64).toInt = (zA κ (zR κ nuLimbs a0) x22_5.toNatClampNeg).toInt := Int32.toInt_toInt64 _
      have em : (zA κ (zR κ nuLimbs a0) x22_5.toNatClampNeg).toInt * a1.toInt = (((zA κ (zR κ nuLimbs a0) x22_5.toNatClampNeg).toNatClampNeg * a1.toInt.toNat : Nat) : Int) := by
        rw [Int.natCast_mul, kl]
        congr 1
        omega
      have et : ((zA κ (zR κ nuLimbs a0) x22_5.toNatClampNeg).toInt64 * a1).toInt = (((zA κ (zR κ nuLimbs a0) x22_5.toNatClampNeg).toNatClampNeg * a1.toInt.toNat : Nat) : Int) := by
        rw [jmul_i (by rw [e64, em]; omega) (by rw [e64, em]; omega), e64, em]
      have e17 : x17.toInt = (((zA κ (zR κ nuLimbs a0) x22_5.toNatClampNeg).toNatClampNeg * a1.toInt.toNat + x22_3.toInt.toNat : Nat) : Int) := by
        rw [hx17, jadd_i (by rw [et]; omega) (by rw [et]; omega), et]
        omega
      have f1 := (j_and (x := x17)).2
      have f2 := j_shr (x := x17) (by omega)
      have e5 := cn1 (x := x22_5) k22.1 (by omega)
      refine ⟨?_, ?_⟩
      · rw [rs, ns, inb_iff]; omega  -- b7
      intro κ_18 hκ_18
      intro W19
      intro x20 hx20
      intro x21 hx21
      refine ⟨_, ?_, rfl, ?_⟩
      · rw [hn22, hx21, e5.2]; omega  -- d8
      · rw [← hx20] at f2
        obtain ⟨u1, u2, u3⟩ := nu_u W22 T22_0 hκ_18
        rw [rs] at u2
        have s := tmI_s (x := (x17 &&& 2147483647).toInt32) J22 (by omega) (by rw [lj3, f1, e17]) u2
        rw [lj3] at s
        have ec : x20.toInt.toNat = ((zA κ (zR κ nuLimbs a0) x22_5.toNatClampNeg).toNatClampNeg * a1.toInt.toNat + x22_3.toInt.toNat) / 2147483648 := by omega
        rw [← ec] at s
        rw [hx21]
        exact ⟨rfl, rfl, E22.tr u1, by rw [e5.2]; omega, by omega, by rw [e5.1]; exact s⟩
  · skip
    refine h _ ?_
    · have e : a1 = 1 := (lg_cmp_eq _ _).mp c1
      refine ⟨zF.rf, I0, ?_⟩
      rw [e]
      show _ = _ * 1
      omega
