set_option maxHeartbeats 1600000
/-! the class: Num's plus, minus -/
/-- limbs of a number with noughts behind them -/
def uP (κ : zS) (x : Nat) : Nat → Int32 := fun j => if j < nuK κ x then zA κ (zR κ nuLimbs x) j else 0
theorem uP_v {κ : zS} {x m : Nat} (h : nuK κ x ≤ m) : uV (uP κ x) m = nuN κ x := by
  have e := uV_pad (f := uP κ x) h (fun i h1 _ => if_neg (by omega))
  rw [e]
  exact uV_e (fun i hi => if_pos hi)
theorem uP_0 {κ : zS} {x c j : Nat} (B : nuB κ x c) : 0 ≤ (uP κ x j).toInt := by
  have k := nuK_i B
  by_cases h : j < nuK κ x
  · have e : uP κ x j = zA κ (zR κ nuLimbs x) j := if_pos h
    rw [e]; exact B.2.2 j (by omega)
  · have e : uP κ x j = 0 := if_neg h
    rw [e]; decide
/-- the last limb, then the length -/
theorem nu_fin {C : zC} {n0 x m c : Nat} {τ σ ρ : zS} {v mx : Int32} (W : zW C n0 τ) (T : zT τ x = 8) (e1 : σ = ua τ (zR τ nuLimbs x) m v) (e2 : ρ = ui σ nuLength x mx) (em : mx.toInt = m + 1) (hl : m + 1 ≤ (zN τ (zR τ nuLimbs x)) ∧ (zN τ (zR τ nuLimbs x)) ≤ c) (h2 : 2 ≤ (zN τ (zR τ nuLimbs x))) (hv : 0 ≤ v.toInt) (hX : ∀ j, j < m → 0 ≤ (zA τ (zR τ nuLimbs x) j).toInt) : zF (nuF x) τ ρ ∧ nuB ρ x c ∧ nuN ρ x = uV (zA τ (zR τ nuLimbs x)) m + v.toNatClampNeg * 2147483648 ^ m := by
  obtain ⟨u1, u2, u3⟩ := nu_u W T e1
  have km := cnk (x := mx) (by omega)
  have R : zR ρ = zR τ := by rw [e2]; exact u1.2.1
  have N : zN ρ = zN τ := by rw [e2]; exact u1.2.2.2
  have A : zA ρ = zA σ := by rw [e2]; rfl
  have I : zI ρ nuLength x = mx := by rw [e2]; exact if_pos ⟨rfl, rfl⟩
  have am : zA σ (zR τ nuLimbs x) m = v := by rw [u2]; exact if_pos rfl
  have al : ∀ j, j ≠ m → zA σ (zR τ nuLimbs x) j = zA τ (zR τ nuLimbs x) j := fun j hj => by rw [u2]; exact if_neg hj
  refine ⟨u1.1.tr (by rw [e2]; exact zF_ui ⟨rfl, Or.inr rfl⟩), ⟨?_, ?_, fun i hi => ?_⟩, ?_⟩
  · rw [R, N, I]; omega
  · rw [R, N]; omega
  · rw [I] at hi
    rw [R, A]
    by_cases z : i = m
    · rw [z, am]; exact hv
    · rw [al i z]; exact hX i (by omega)
  · have ek : mx.toNatClampNeg = m + 1 := by omega
    unfold nuN
    rw [I, R, A, ek]
    show uV _ m + (zA σ (zR τ nuLimbs x) m).toNatClampNeg * _ = _
    rw [uV_e (fun j hj => al j (Nat.ne_of_lt hj)), am]
/-- a sum, limb by limb -/
def adI (L M X : Nat → Int32) (m i c : Nat) : Prop := uV X i + c * 2147483648 ^ i = uV L i + uV M i ∧ c ≤ 1 ∧ (∀ j, j < i → 0 ≤ (X j).toInt) ∧ ∀ j, i ≤ j → j < m → X j = L j
theorem ar31p {p D S R c x y v : Nat} (h : D + c * p = S + R) (hv : v = x + y + c) : D + v % 2147483648 * p + v / 2147483648 * (2147483648 * p) = S + x * p + (R + y * p) := by
  have m := Nat.div_add_mod v 2147483648
  have e : (2147483648 * (v / 2147483648) + v % 2147483648) * p = (x + y + c) * p := by rw [m, hv]
  rw [Nat.add_mul, Nat.add_mul, Nat.add_mul] at e
  have f : v / 2147483648 * (2147483648 * p) = 2147483648 * (v / 2147483648) * p := by
    rw [← Nat.mul_assoc, Nat.mul_comm (v / 2147483648) 2147483648]
  omega
theorem adI_s {L M X X' : Nat → Int32} {m i c : Nat} {x : Int32} (h : adI L M X m i c) (ex : x.toInt = (((L i).toNatClampNeg + (M i).toNatClampNeg + c : Nat) : Int) % 2147483648) (e : X' = upd X i x) : adI L M X' m (i + 1) (((L i).toNatClampNeg + (M i).toNatClampNeg + c) / 2147483648) := by
  obtain ⟨h1, h2, h3, h4⟩ := h
  have l := lim31 (L i)
  have l2 := lim31 (M i)
  have kx := cnk (x := x) (by omega)
  have mi : X' i = x := by rw [e]; exact if_pos rfl
  have mj : ∀ j, j ≠ i → X' j = X j := fun j hj => by rw [e]; exact if_neg hj
  refine ⟨?_, by omega, fun j hj => ?_, fun j hj hm => ?_⟩
  · show uV X' i + (X' i).toNatClampNeg * 2147483648 ^ i + _ = (uV L i + (L i).toNatClampNeg * 2147483648 ^ i) + (uV M i + (M i).toNatClampNeg * 2147483648 ^ i)
    rw [uV_e (g := X) (fun j hj => mj j (Nat.ne_of_lt hj)), mi, p31_s]
    have e9 : x.toNatClampNeg = ((L i).toNatClampNeg + (M i).toNatClampNeg + c) % 2147483648 := by omega
    rw [e9]
    exact ar31p h1 rfl
  · by_cases z : j = i
    · rw [z, mi]; omega
    · rw [mj j z]; exact h3 j (by omega)
  · rw [mj j (by omega)]; exact h4 j (by omega) hm
theorem Nu_plus_c {C : zC} {n0 : Nat} {a0 : Nat} {a1 : Nat} {κ : zS} {Q : zS → Prop} (W : zW C n0 κ) (Ta0 : zT κ a0 = 8) (Ta1 : zT κ a1 = 8) (c9 d9 : Nat) (hp : nuI κ a0 c9 ∧ nuI κ a1 d9 ∧ a0 ≠ a1 ∧ (nuK κ a0 + 1 + (nuK κ a0 + 1) / 2 + 1 ≤ c9 ∧ nuK κ a1 + 1 + (nuK κ a1 + 1) / 2 + 1 ≤ c9) ∧ c9 ≤ 30000000) (h : ∀ (κ' : zS), (zF (nuF a0) κ κ' ∧ nuI κ' a0 c9 ∧ nuN κ' a0 = nuN κ a0 + nuN κ a1) → Q κ') : zRun C 3 mNu_plus [.ref a0, .ref a1] κ (oV Q noX) := by
  refine Nu_plus_run W Ta0 Ta1 ?_
  replace W := W.lo (Nat.le_trans W.1.2.1 W.1.2.2) (Nat.le_refl (zn κ))
  unfold w_Nu_plus_0
  obtain ⟨I0, I1, ne, ⟨p1, p2⟩, p3⟩ := hp
  have k0 := nuK_i I0.1
  have k1 := nuK_i I1.1
  have kd0 : nuK κ a0 = (zI κ nuLength a0).toNatClampNeg := rfl
  have kd1 : nuK κ a1 = (zI κ nuLength a1).toNatClampNeg := rfl
  have lb := I0.1.1
  have lr := I0.1.2.1
  have nF : ∀ f, ¬ nuF a0 f a1 := fun f z => ne z.1.symm
  intro x1 hx1
  intro T2
  have ex : x1.toInt = (nuK κ a0 : Int) ∧ nuK κ a1 ≤ nuK κ a0 ∨ x1.toInt = (nuK κ a1 : Int) ∧ nuK κ a0 < nuK κ a1 := by
    rw [hx1]
    by_cases z : zI κ nuLength a0 < zI κ nuLength a1
    · rw [if_pos z]
      rw [lti] at z
      right; omega
    · rw [if_neg z]
      rw [lti] at z
      left; omega
  have e1 := cn1 (x := x1) (by omega) (by omega)
  have kx1 := cnk (x := x1) (by omega)
  refine Nu_widen_c W T2  ?_ (fun κ_3 q4 => ?_)
  · exact ⟨by rw [e1.2]; omega, lr.1⟩  -- p1
  obtain ⟨F3, I3, R3, L3, A3⟩ := q4
  have T3 : zT κ_3 a0 = 8 := F3.t Ta0 (by decide)
  rw [e1.2] at L3
  intro W5
  intro M6
  intro T7
  refine Ar_fill4_c W5 T7  ?_ (fun κ_8 q9 => ?_)
  · rw [I3]
    exact ⟨by rw [lei, t0i]; omega, by rw [lei, e1.2]; omega, by rw [e1.1]; omega⟩
  rw [I3, e1.1] at q9
  have R8 : zR κ_8 = zR κ_3 := by rw [q9]; rfl
  have I8 : zI κ_8 = zI κ := by rw [q9]; exact I3
  have N8 : zN κ_8 = zN κ_3 := by rw [q9]; rfl
  have ow := W5.o (show zr nuLimbs = some 20 by decide +kernel) (by decide) T3
  have Z8 : zF (nuF a0) κ κ_8 := F3.tr (by rw [q9]; exact zF_uf (by rw [ow]; exact ⟨rfl, Or.inl rfl⟩))
  have A8 : ∀ j, j < x1.toInt.toNat + 1 → zA κ_8 (zR κ_3 nuLimbs a0) j = uP κ a0 j := fun j hj => by
    rw [q9]
    refine (congrFun (if_pos rfl) j).trans ?_
    show (if (zI κ nuLength a0).toNatClampNeg ≤ j ∧ j < _ then (0 : Int32) else _) = if j < nuK κ a0 then _ else 0
    by_cases z : j < nuK κ a0
    · rw [if_neg (by omega), if_pos z]
      exact A3 j (by omega)
    · rw [if_pos (by omega), if_neg z]
  intro W10
  intro M11
  unfold w_Nu_plus_39
  refine ⟨fun n l0 l1 l2 l3 l4 τ => n = (l2.toInt - l4.toInt).toNat ∧ (a0 = l0 ∧ a1 = l1 ∧ nuE κ_8 τ a0 ∧ x1 = l2 ∧ (0 ≤ l4.toInt ∧ l4.toInt ≤ x1.toInt) ∧ 0 ≤ l3.toInt ∧ adI (uP κ a0) (uP κ a1) (zA τ (zR κ_3 nuLimbs a0)) (x1.toInt.toNat + 1) l4.toNatClampNeg l3.toInt.toNat), ⟨_, rfl, ?_⟩, ?_⟩
  · exact ⟨rfl, rfl, nuE.rf, rfl, ⟨by decide, by rw [t0i]; omega⟩, by decide, by
      show 0 + 0 * _ = 0 + 0
      omega, by decide, fun j hj => absurd hj (Nat.not_lt_zero _), fun j _ hj => A8 j hj⟩
  rintro n39 _ _ x39_2 x39_3 x39_4 κ39 W39 T39_0 T39_1 ⟨hn39, rfl, rfl, i39⟩
  obtain ⟨E39, rfl, k39, c39, J39⟩ := i39
  have rs : zR κ39 = zR κ_3 := E39.2.1.trans R8
  have is : zI κ39 = zI κ := E39.2.2.1.trans I8
  have ns : zN κ39 = zN κ_3 := E39.2.2.2.trans N8
  have Z39 := Z8.tr E39.1
  have u39 := nu_z W Ta1 Z39 (nF nuLimbs) (nF nuLength)
  have kn := cnk k39.1
  have hj73 : ∀ (l0 : Nat) (l1 : Nat) (l2 : Int32) (l3 : Int32) (l4 : Int32) (s0 : Int64) (s1 : Int32) (τ : zS), zW C (zn κ) τ → zT τ l0 = 8 → zT τ l1 = 8 → (a0 = l0 ∧ a1 = l1 ∧ κ39 = τ ∧ (x1 = l2 ∧ x39_3 = l3 ∧ x39_4 = l4) ∧ x39_4.toInt < x1.toInt ∧ s0 = (zA κ39 (zR κ39 nuLimbs a0) x39_4.toNatClampNeg).toInt64 ∧ s1 = uP κ a1 x39_4.toNatClampNeg) → w_Nu_plus_73 C (zn κ) Q (fun (l0' : Nat) (l1' : Nat) (l2' : Int32) (l3' : Int32) (l4' : Int32) (τ : zS) => ∃ k < n39, (fun (n : Nat) (l0 : Nat) (l1 : Nat) (l2 : Int32) (l3 : Int32) (l4 : Int32) (τ : zS) => n = (l2.toInt - l4.toInt).toNat ∧ (a0 = l0 ∧ a1 = l1 ∧ nuE κ_8 τ a0 ∧ x1 = l2 ∧ (0 ≤ l4.toInt ∧ l4.toInt ≤ x1.toInt) ∧ 0 ≤ l3.toInt ∧ adI (uP κ a0) (uP κ a1) (zA τ (zR κ_3 nuLimbs a0)) (x1.toInt.toNat + 1) l4.toNatClampNeg l3.toInt.toNat)) k l0' l1' l2' l3' l4' τ) l0 l1 l2 l3 l4 s0 s1 τ := by
    rintro _ _ y73_2 y73_3 y73_4 y73_s0 y73_s1 τ73 W73 T73_0 T73_1 ⟨rfl, rfl, j73⟩
    unfold w_Nu_plus_73
    intro x12 hx12
    obtain ⟨rfl, ⟨rfl, rfl, rfl⟩, l73, e73, f73⟩ := j73
    have jx := J39.2.2.2 x39_4.toNatClampNeg (Nat.le_refl _) (by omega)
    rw [rs, jx] at e73
    have g1 := uP_0 (j := x39_4.toNatClampNeg) I0.1
    have g2 := uP_0 (j := x39_4.toNatClampNeg) I1.1
    have h1 := ihi (uP κ a0 x39_4.toNatClampNeg)
    have h2 := ihi (uP κ a1 x39_4.toNatClampNeg)
    have kg1 := cnk g1
    have kg2 := cnk g2
    have cb := J39.2.1
    have b1 : (uP κ a0 x39_4.toNatClampNeg).toInt64.toInt = (uP κ a0 x39_4.toNatClampNeg).toInt := Int32.toInt_toInt64 _
    have b2 : (uP κ a1 x39_4.toNatClampNeg).toInt64.toInt = (uP κ a1 x39_4.toNatClampNeg).toInt := Int32.toInt_toInt64 _
    have b3 : x39_3.toInt64.toInt = x39_3.toInt := Int32.toInt_toInt64 _
    have t1 : ((uP κ a0 x39_4.toNatClampNeg).toInt64 + (uP κ a1 x39_4.toNatClampNeg).toInt64).toInt = (uP κ a0 x39_4.toNatClampNeg).toInt + (uP κ a1 x39_4.toNatClampNeg).toInt := by
      rw [jadd_i (by rw [b1, b2]; omega) (by rw [b1, b2]; omega), b1, b2]
    rw [e73, f73] at hx12
    have t2 : x12.toInt = (((uP κ a0 x39_4.toNatClampNeg).toNatClampNeg + (uP κ a1 x39_4.toNatClampNeg).toNatClampNeg + x39_3.toInt.toNat : Nat) : Int) := by
      rw [hx12, jadd_i (by rw [t1, b3]; omega) (by rw [t1, b3]; omega), t1, b3]
      omega
    have f1 := (j_and (x := x12)).2
    have f2 := j_shr (x := x12) (by omega)
    have f3 := j_i32 (x := (x12.toUInt64 >>> ((31 : Int32).toInt64.toUInt64 &&& Int64.toUInt64 63)).toInt64) (by rw [f2]; omega) (by rw [f2]; omega)
    have e5 := cn1 (x := x39_4) k39.1 (by omega)
    refine ⟨?_, ?_⟩
    · rw [rs, ns, inb_iff]; omega  -- b4
    intro κ_13 hκ_13
    intro W14
    intro x15 hx15
    intro x16 hx16
    refine ⟨_, ?_, rfl, ?_⟩
    · rw [hn39, hx16, e5.2]; omega  -- d5
    · rw [f2, ← hx15] at f3
      obtain ⟨u1, u2, u3⟩ := nu_u W39 T39_0 hκ_13
      rw [rs] at u2
      have s := adI_s (x := (x12 &&& 2147483647).toInt32) J39 (by rw [f1, t2]) u2
      have ec : x15.toInt.toNat = ((uP κ a0 x39_4.toNatClampNeg).toNatClampNeg + (uP κ a1 x39_4.toNatClampNeg).toNatClampNeg + x39_3.toInt.toNat) / 2147483648 := by omega
      rw [← ec] at s
      rw [hx16]
      exact ⟨rfl, rfl, E39.tr u1, rfl, by rw [e5.2]; omega, by omega, by rw [e5.1]; exact s⟩
  refine ⟨fun c17 => ?_, fun c17 => ?_⟩
  · skip
    refine ⟨?_, ?_⟩
    · rw [rs, ns, inb_iff]; omega  -- b7
    intro κ_18 hκ_18
    intro W19
    intro κ_20 hκ_20
    intro W21
    intro T22
    rw [lei] at c17
    have kk : x39_4.toNatClampNeg = x1.toInt.toNat := by omega
    rw [kk] at J39
    have kx1' : x1.toNatClampNeg = x1.toInt.toNat := by omega
    rw [kx1'] at hκ_18
    have fin := nu_fin (c := c9) W39 T39_0 hκ_18 hκ_20 (by rw [e1.2]; omega) (by rw [rs, ns]; omega) (by rw [rs, ns]; omega) c39 (fun j hj => by rw [rs]; exact J39.2.2.1 j hj)
    refine Nu_trim_c W21 T22 c9 ?_ (fun κ_23 q24 => ?_)
    · exact fin.2.1  -- p8
    intro W25
    intro M26
    refine h _ ?_
    · refine ⟨(Z39.tr fin.1).tr q24.1.1, q24.2.1, ?_⟩
      rw [q24.2.2.1, fin.2.2, rs]
      have e9 : x39_3.toNatClampNeg = x39_3.toInt.toNat := by
        have := cnk c39
        omega
      rw [e9, J39.1, uP_v (by omega), uP_v (by omega)]
  · skip
    rw [lei] at c17
    refine ⟨?_, ?_⟩
    · rw [rs, ns, inb_iff]; omega  -- b10
    refine ⟨fun c27 => ?_, fun c27 => ?_⟩
    · skip
      refine hj73 _ _ _ _ _ _ _ _ W39 ?_ ?_ ?_
      · exact T39_0  -- t11
      · exact T39_1  -- t12
      · rw [is, lei] at c27
        exact ⟨rfl, rfl, rfl, ⟨rfl, rfl, rfl⟩, by omega, rfl, (if_neg (by omega)).symm⟩
    · skip
      rw [is, lei] at c27
      have lb1 := I1.1.1
      refine ⟨?_, ?_⟩
      · rw [u39.2.1, u39.2.2.2, inb_iff]; omega  -- b14
      refine hj73 _ _ _ _ _ _ _ _ W39 ?_ ?_ ?_
      · exact T39_0  -- t15
      · exact T39_1  -- t16
      · refine ⟨rfl, rfl, rfl, ⟨rfl, rfl, rfl⟩, by omega, rfl, ?_⟩
        rw [u39.2.1, u39.2.2.1]
        exact (if_pos (by omega)).symm

/-- a difference, limb by limb -/
def suI (L M X : Nat → Int32) (m i b : Nat) : Prop := uV X i + uV M i = uV L i + b * 2147483648 ^ i ∧ b ≤ 1 ∧ (∀ j, j < i → 0 ≤ (X j).toInt) ∧ ∀ j, i ≤ j → j < m → X j = L j
theorem ar31m {p D S R b x y z w : Nat} (h : D + R = S + b * p) (hz : z + y + b = x + w * 2147483648) : D + z * p + (R + y * p) = S + x * p + w * (2147483648 * p) := by
  have e : (z + y + b) * p = (x + w * 2147483648) * p := by rw [hz]
  rw [Nat.add_mul, Nat.add_mul, Nat.add_mul, Nat.mul_assoc] at e
  omega
theorem suI_s {L M X X' : Nat → Int32} {m i b w : Nat} {x : Int32} (h : suI L M X m i b) (hx : 0 ≤ x.toInt) (hw : w ≤ 1) (ex : x.toNatClampNeg + (M i).toNatClampNeg + b = (L i).toNatClampNeg + w * 2147483648) (e : X' = upd X i x) : suI L M X' m (i + 1) w := by
  obtain ⟨h1, h2, h3, h4⟩ := h
  have mi : X' i = x := by rw [e]; exact if_pos rfl
  have mj : ∀ j, j ≠ i → X' j = X j := fun j hj => by rw [e]; exact if_neg hj
  refine ⟨?_, hw, fun j hj => ?_, fun j hj hm => ?_⟩
  · show uV X' i + (X' i).toNatClampNeg * 2147483648 ^ i + (uV M i + (M i).toNatClampNeg * 2147483648 ^ i) = (uV L i + (L i).toNatClampNeg * 2147483648 ^ i) + _
    rw [uV_e (g := X) (fun j hj => mj j (Nat.ne_of_lt hj)), mi, p31_s]
    exact ar31m h1 ex
  · by_cases z : j = i
    · rw [z, mi]; exact hx
    · rw [mj j z]; exact h3 j (by omega)
  · rw [mj j (by omega)]; exact h4 j (by omega) hm
theorem Nu_minus_c {C : zC} {n0 : Nat} {a0 : Nat} {a1 : Nat} {κ : zS} {Q : zS → Prop} (W : zW C n0 κ) (Ta0 : zT κ a0 = 8) (Ta1 : zT κ a1 = 8) (c9 d9 : Nat) (hp : nuI κ a0 c9 ∧ nuI κ a1 d9 ∧ a0 ≠ a1 ∧ nuN κ a1 ≤ nuN κ a0) (h : ∀ (κ' : zS), (zF (nuF a0) κ κ' ∧ nuI κ' a0 c9 ∧ nuN κ' a0 = nuN κ a0 - nuN κ a1) → Q κ') : zRun C 1 mNu_minus [.ref a0, .ref a1] κ (oV Q noX) := by
  refine Nu_minus_run W Ta0 Ta1 ?_
  replace W := W.lo (Nat.le_trans W.1.2.1 W.1.2.2) (Nat.le_refl (zn κ))
  unfold w_Nu_minus_0
  obtain ⟨I0, I1, ne, p1⟩ := hp
  have k0 := nuK_i I0.1
  have k1 := nuK_i I1.1
  have kd1 : nuK κ a1 = (zI κ nuLength a1).toNatClampNeg := rfl
  have lb := I0.1.1
  have lb1 := I1.1.1
  have lr := I0.1.2.1
  have kl : nuK κ a1 ≤ nuK κ a0 := nuK_le (d := 0) I1 p1
  have hl := ihi (zI κ nuLength a0)
  have nF : ∀ f, ¬ nuF a0 f a1 := fun f z => ne z.1.symm
  unfold w_Nu_minus_4
  refine ⟨fun n l0 l1 l2 l3 τ => n = ((zI κ nuLength a0).toInt - l3.toInt).toNat ∧ (a0 = l0 ∧ a1 = l1 ∧ nuE κ τ a0 ∧ (0 ≤ l3.toInt ∧ l3.toInt ≤ (zI κ nuLength a0).toInt) ∧ 0 ≤ l2.toInt ∧ suI (zA κ (zR κ nuLimbs a0)) (uP κ a1) (zA τ (zR κ nuLimbs a0)) (nuK κ a0) l3.toNatClampNeg l2.toInt.toNat), ⟨_, rfl, ?_⟩, ?_⟩
  · exact ⟨rfl, rfl, nuE.rf, ⟨by decide, by rw [t0i]; omega⟩, by decide, by
      show 0 + 0 = 0 + 0 * _
      omega, by decide, fun j hj => absurd hj (Nat.not_lt_zero _), fun _ _ _ => rfl⟩
  rintro n4 _ _ x4_2 x4_3 κ4 W4 T4_0 T4_1 ⟨hn4, rfl, rfl, i4⟩
  obtain ⟨E4, k4, c4, J4⟩ := i4
  have rs := E4.2.1
  have is := E4.2.2.1
  have ns := E4.2.2.2
  have u4 := nu_z W Ta1 E4.1 (nF nuLimbs) (nF nuLength)
  have kn := cnk k4.1
  have hj51 : ∀ (l0 : Nat) (l1 : Nat) (l3 : Int32) (l4 : Int32) (s0 : Int32) (τ : zS), zW C (zn κ) τ → zT τ l0 = 8 → zT τ l1 = 8 → (a0 = l0 ∧ a1 = l1 ∧ κ4 = τ ∧ x4_3 = l3 ∧ x4_3.toInt < (zI κ nuLength a0).toInt ∧ l4.toInt = (zA κ (zR κ nuLimbs a0) x4_3.toNatClampNeg).toInt - (uP κ a1 x4_3.toNatClampNeg).toInt - x4_2.toInt ∧ (s0.toInt = 0 ∧ 0 ≤ l4.toInt ∨ s0.toInt = 1 ∧ l4.toInt < 0)) → w_Nu_minus_51 C (zn κ) Q (fun (l0' : Nat) (l1' : Nat) (l2' : Int32) (l3' : Int32) (τ : zS) => ∃ k < n4, (fun (n : Nat) (l0 : Nat) (l1 : Nat) (l2 : Int32) (l3 : Int32) (τ : zS) => n = ((zI κ nuLength a0).toInt - l3.toInt).toNat ∧ (a0 = l0 ∧ a1 = l1 ∧ nuE κ τ a0 ∧ (0 ≤ l3.toInt ∧ l3.toInt ≤ (zI κ nuLength a0).toInt) ∧ 0 ≤ l2.toInt ∧ suI (zA κ (zR κ nuLimbs a0)) (uP κ a1) (zA τ (zR κ nuLimbs a0)) (nuK κ a0) l3.toNatClampNeg l2.toInt.toNat)) k l0' l1' l2' l3' τ) l0 l1 l3 l4 s0 τ := by
    rintro _ _ y51_3 y51_4 y51_s0 τ51 W51 T51_0 T51_1 ⟨rfl, rfl, j51⟩
    unfold w_Nu_minus_51
    obtain ⟨rfl, rfl, l51, e51, s51⟩ := j51
    have e5 := cn1 (x := x4_3) k4.1 (by omega)
    refine ⟨?_, ?_⟩
    · rw [rs, ns, inb_iff]; omega  -- b2
    intro κ_1 hκ_1
    intro W2
    intro x3 hx3
    refine ⟨_, ?_, rfl, ?_⟩
    · rw [hn4, hx3, e5.2]; omega  -- d3
    · obtain ⟨u1, u2, u3⟩ := nu_u W4 T4_0 hκ_1
      rw [rs] at u2
      have g1 := I0.1.2.2 x4_3.toNatClampNeg (by omega)
      have g2 := uP_0 (j := x4_3.toNatClampNeg) I1.1
      have h1 := ihi (zA κ (zR κ nuLimbs a0) x4_3.toNatClampNeg)
      have h2 := ihi (uP κ a1 x4_3.toNatClampNeg)
      have kg1 := cnk g1
      have kg2 := cnk g2
      have cb := J4.2.1
      have f1 := i_and (x := y51_4)
      have kf := cnk (x := y51_4 &&& 2147483647) (by omega)
      have s := suI_s (x := y51_4 &&& 2147483647) (w := y51_s0.toInt.toNat) J4 (by omega) (by omega) (by omega) u2
      rw [hx3]
      exact ⟨rfl, rfl, E4.tr u1, by rw [e5.2]; omega, by omega, by rw [e5.1]; exact s⟩
  have hj36 : ∀ (l0 : Nat) (l1 : Nat) (l2 : Int32) (l3 : Int32) (s0 : Int32) (s1 : Int32) (τ : zS), zW C (zn κ) τ → zT τ l0 = 8 → zT τ l1 = 8 → (a0 = l0 ∧ a1 = l1 ∧ κ4 = τ ∧ (x4_2 = l2 ∧ x4_3 = l3) ∧ x4_3.toInt < (zI κ nuLength a0).toInt ∧ s0 = zA κ (zR κ nuLimbs a0) x4_3.toNatClampNeg ∧ s1 = uP κ a1 x4_3.toNatClampNeg) → w_Nu_minus_36 C (zn κ) Q (fun (l0' : Nat) (l1' : Nat) (l2' : Int32) (l3' : Int32) (τ : zS) => ∃ k < n4, (fun (n : Nat) (l0 : Nat) (l1 : Nat) (l2 : Int32) (l3 : Int32) (τ : zS) => n = ((zI κ nuLength a0).toInt - l3.toInt).toNat ∧ (a0 = l0 ∧ a1 = l1 ∧ nuE κ τ a0 ∧ (0 ≤ l3.toInt ∧ l3.toInt ≤ (zI κ nuLength a0).toInt) ∧ 0 ≤ l2.toInt ∧ suI (zA κ (zR κ nuLimbs a0)) (uP κ a1) (zA τ (zR κ nuLimbs a0)) (nuK κ a0) l3.toNatClampNeg l2.toInt.toNat)) k l0' l1' l2' l3' τ) l0 l1 l2 l3 s0 s1 τ := by
    rintro _ _ y36_2 y36_3 y36_s0 y36_s1 τ36 W36 T36_0 T36_1 ⟨rfl, rfl, j36⟩
    unfold w_Nu_minus_36
    intro x4 hx4
    obtain ⟨rfl, ⟨rfl, rfl⟩, l36, e36, f36⟩ := j36
    have g1 := I0.1.2.2 x4_3.toNatClampNeg (by omega)
    have g2 := uP_0 (j := x4_3.toNatClampNeg) I1.1
    have h1 := ihi (zA κ (zR κ nuLimbs a0) x4_3.toNatClampNeg)
    have h2 := ihi (uP κ a1 x4_3.toNatClampNeg)
    have cb := J4.2.1
    have t1 : (zA κ (zR κ nuLimbs a0) x4_3.toNatClampNeg - uP κ a1 x4_3.toNatClampNeg).toInt = (zA κ (zR κ nuLimbs a0) x4_3.toNatClampNeg).toInt - (uP κ a1 x4_3.toNatClampNeg).toInt := sub_i (by omega) (by omega)
    have t2 : x4.toInt = (zA κ (zR κ nuLimbs a0) x4_3.toNatClampNeg).toInt - (uP κ a1 x4_3.toNatClampNeg).toInt - x4_2.toInt := by
      rw [hx4, e36, f36, sub_i (by rw [t1]; omega) (by rw [t1]; omega), t1]
    refine ⟨fun c5 => ?_, fun c5 => ?_⟩
    · skip
      refine hj51 _ _ _ _ _ _ W36 ?_ ?_ ?_
      · exact T36_0  -- t5
      · exact T36_1  -- t6
      · rw [lei, t0i] at c5
        exact ⟨rfl, rfl, rfl, rfl, l36, t2, Or.inl ⟨rfl, c5⟩⟩
    · skip
      refine hj51 _ _ _ _ _ _ W36 ?_ ?_ ?_
      · exact T36_0  -- t8
      · exact T36_1  -- t9
      · rw [lei, t0i] at c5
        exact ⟨rfl, rfl, rfl, rfl, l36, t2, Or.inr ⟨rfl, by omega⟩⟩
  have fin : (zI κ nuLength a0).toInt ≤ x4_3.toInt → nuB κ4 a0 c9 ∧ nuN κ4 a0 = nuN κ a0 - nuN κ a1 := fun c6 => by
    have kk : x4_3.toNatClampNeg = nuK κ a0 := by omega
    rw [kk] at J4
    have V4 : nuN κ4 a0 = uV (zA κ4 (zR κ nuLimbs a0)) (nuK κ a0) := by
      unfold nuN nuK
      rw [is, rs]
    have V0 : nuN κ a0 = uV (zA κ (zR κ nuLimbs a0)) (nuK κ a0) := rfl
    have jv := J4.1
    have jb := J4.2.1
    rw [← V4, ← V0, uP_v kl] at jv
    have jl : nuN κ4 a0 < 2147483648 ^ nuK κ a0 := by rw [V4]; exact uV_lt
    refine ⟨⟨?_, ?_, fun i hi => ?_⟩, ?_⟩
    · rw [rs, ns, is]; exact lb
    · rw [rs, ns]; exact lr
    · rw [is] at hi
      rw [rs]
      exact J4.2.2.1 i (by omega)
    · have y : x4_2.toInt.toNat = 0 ∨ x4_2.toInt.toNat = 1 := by omega
      rcases y with y | y <;> rw [y] at jv <;> omega
  refine ⟨fun c6 => ?_, fun c6 => ?_⟩
  · skip
    intro T7
    refine Nu_trim_c W4 T7 c9 ?_ (fun κ_8 q9 => ?_)
    · rw [is, lei] at c6
      exact (fin c6).1
    intro W10
    intro M11
    refine h _ ?_
    · rw [is, lei] at c6
      exact ⟨E4.1.tr q9.1.1, q9.2.1, by rw [q9.2.2.1]; exact (fin c6).2⟩
  · skip
    rw [is, lei] at c6
    refine ⟨?_, ?_⟩
    · rw [rs, ns, inb_iff]; omega  -- b13
    refine ⟨fun c12 => ?_, fun c12 => ?_⟩
    · skip
      refine hj36 _ _ _ _ _ _ _ W4 ?_ ?_ ?_
      · exact T4_0  -- t14
      · exact T4_1  -- t15
      · rw [is, lei] at c12
        refine ⟨rfl, rfl, rfl, ⟨rfl, rfl⟩, by omega, ?_, (if_neg (by omega)).symm⟩
        rw [rs]; exact J4.2.2.2 _ (Nat.le_refl _) (by omega)
    · skip
      rw [is, lei] at c12
      refine ⟨?_, ?_⟩
      · rw [u4.2.1, u4.2.2.2, inb_iff]; omega  -- b17
      refine hj36 _ _ _ _ _ _ _ W4 ?_ ?_ ?_
      · exact T4_0  -- t18
      · exact T4_1  -- t19
      · refine ⟨rfl, rfl, rfl, ⟨rfl, rfl⟩, by omega, ?_, ?_⟩
        · rw [rs]; exact J4.2.2.2 _ (Nat.le_refl _) (by omega)
        · rw [u4.2.1, u4.2.2.1]
          exact (if_pos (by omega)).symm
