set_option maxHeartbeats 1600000
/-! the class: Num's bitsOf, bits, words, word, high -/
theorem i_sh1 {x : Int32} : (x >>> ((1 : Int32) &&& 31)).toInt = x.toInt / 2 := by
  have e : (x >>> ((1 : Int32) &&& 31)).toBitVec = x.toBitVec.sshiftRight 1 := by
    rw [Int32.toBitVec_shiftRight, BitVec.sshiftRight_eq']
    rfl
  have t : (x >>> ((1 : Int32) &&& 31)).toInt = (x.toBitVec.sshiftRight 1).toInt := by rw [← e]; rfl
  rw [t, BitVec.toInt_sshiftRight, Int.shiftRight_eq_div_pow]
  rfl
/-- counting bits -/
def btI (a v r : Nat) : Prop := a / 2 ^ v = r ∧ (v = 0 ∨ 2 ^ (v - 1) ≤ a)
theorem btI_s {a v r : Nat} (h : btI a v r) (hr : 0 < r) : btI a (v + 1) (r / 2) := by
  refine ⟨by rw [Nat.pow_succ, ← Nat.div_div_eq_div_mul, h.1], Or.inr ?_⟩
  show 2 ^ v ≤ a
  refine Nat.le_of_not_lt (fun l => ?_)
  have := Nat.div_eq_of_lt l
  have := h.1
  omega
theorem btI_e {a v : Nat} (h : btI a v 0) : a < 2 ^ v ∧ (0 < a → 1 ≤ v ∧ 2 ^ (v - 1) ≤ a) := by
  have p : 0 < 2 ^ v := Nat.pow_pos (by decide)
  have l : a < 2 ^ v := Nat.lt_of_not_le (fun l => by
    have d := Nat.div_le_div_right (c := 2 ^ v) l
    rw [Nat.div_self p, h.1] at d
    omega)
  refine ⟨l, fun ha => ?_⟩
  rcases h.2 with z | z
  · rw [z] at l
    exact absurd l (by show ¬ a < 1; omega)
  · by_cases y : v = 0
    · rw [y] at l
      exact absurd l (by show ¬ a < 1; omega)
    · exact ⟨by omega, z⟩
theorem btI_b {a v r : Nat} (h : btI a v r) (ha : a < 2147483648) : v ≤ 31 := by
  rcases h.2 with z | z
  · omega
  · have : 2 ^ (v - 1) < 2 ^ 31 := Nat.lt_of_le_of_lt z ha
    have := (Nat.pow_lt_pow_iff_right (by decide : 1 < 2)).mp this
    omega
theorem p31_2 {k : Nat} : 2147483648 ^ k = 2 ^ (31 * k) := by
  have e : (2 : Nat) ^ 31 = 2147483648 := by decide
  rw [Nat.pow_mul, e]
theorem Nu_bitsOf_c {C : zC} {n0 : Nat} {a0 : Int32} {κ : zS} {Q : Int32 → zS → Prop} (W : zW C n0 κ)   (hp : 0 ≤ a0.toInt) (h : ∀ (v : Int32), ((0 ≤ v.toInt ∧ v.toInt ≤ 31) ∧ a0.toInt.toNat < 2 ^ v.toInt.toNat ∧ (0 < a0.toInt → 1 ≤ v.toInt ∧ 2 ^ (v.toInt.toNat - 1) ≤ a0.toInt.toNat)) → Q v κ) : zRun C 0 mNu_bitsOf [.int a0] κ (oI Q noX) := by
  refine Nu_bitsOf_run W  ?_
  replace W := W.lo (Nat.le_trans W.1.2.1 W.1.2.2) (Nat.le_refl (zn κ))
  unfold w_Nu_bitsOf_0
  have ha := ihi a0
  unfold w_Nu_bitsOf_4
  refine ⟨fun n l1 l2 τ => n = l2.toInt.toNat ∧ (κ = τ ∧ 0 ≤ l1.toInt ∧ 0 ≤ l2.toInt ∧ btI a0.toInt.toNat l1.toInt.toNat l2.toInt.toNat), ⟨_, rfl, ?_⟩, ?_⟩
  · exact ⟨rfl, by decide, hp, Nat.div_one _, Or.inl rfl⟩  -- j1
  rintro n4 x4_1 x4_2 _ W4  ⟨hn4, rfl, i4⟩
  obtain ⟨k4, c4, J4⟩ := i4
  have bb := btI_b J4 (by omega)
  refine ⟨fun c1 => ?_, fun c1 => ?_⟩
  · skip
    refine h _ ?_
    · rw [lei, t0i] at c1
      have e : x4_2.toInt.toNat = 0 := by omega
      rw [e] at J4
      have f := btI_e J4
      exact ⟨by omega, f.1, fun z => by
        have := f.2 (by omega)
        exact ⟨by omega, this.2⟩⟩
  · skip
    intro x2 hx2
    intro x3 hx3
    refine ⟨_, ?_, rfl, ?_⟩
    · rw [lei, t0i] at c1
      rw [hn4, hx3, i_sh1]
      omega
    · rw [lei, t0i] at c1
      have e1 : x2.toInt = x4_1.toInt + 1 := by rw [hx2, add_i (by rw [t1i]; omega) (by rw [t1i]; omega), t1i]
      have e2 : x3.toInt = x4_2.toInt / 2 := by rw [hx3, i_sh1]
      have s := btI_s J4 (by omega)
      have e3 : x2.toInt.toNat = x4_1.toInt.toNat + 1 := by omega
      have e4 : x3.toInt.toNat = x4_2.toInt.toNat / 2 := by omega
      exact ⟨rfl, by omega, by omega, by rw [e3, e4]; exact s⟩

/-- the highest limb -/
def nuH (κ : zS) (x : Nat) : Nat := if nuK κ x = 0 then 0 else (zA κ (zR κ nuLimbs x) (nuK κ x - 1)).toNatClampNeg
theorem nuH_e {κ : zS} {x c s : Nat} (I : nuI κ x c) (h : btI (nuH κ x) s 0) : nuN κ x < 2 ^ (31 * (nuK κ x - 1) + s) ∧ (0 < nuN κ x → 1 ≤ 31 * (nuK κ x - 1) + s ∧ 2 ^ (31 * (nuK κ x - 1) + s - 1) ≤ nuN κ x) := by
  have f := btI_e h
  by_cases z : nuK κ x = 0
  · have n := (nuK_z I).mp z
    rw [n]
    exact ⟨Nat.pow_pos (by decide), fun y => absurd y (Nat.lt_irrefl _)⟩
  · have e : nuH κ x = (zA κ (zR κ nuLimbs x) (nuK κ x - 1)).toNatClampNeg := if_neg z
    have k := nuK_i I.1
    have t := I.2 (by omega)
    have ek : ((zI κ nuLength x).toInt - 1).toNat = nuK κ x - 1 := by omega
    rw [ek] at t
    have kt := cnk (x := zA κ (zR κ nuLimbs x) (nuK κ x - 1)) (by omega)
    have v : nuN κ x = uV (zA κ (zR κ nuLimbs x)) (nuK κ x - 1) + nuH κ x * 2147483648 ^ (nuK κ x - 1) := by
      have e9 : nuK κ x = nuK κ x - 1 + 1 := by omega
      rw [e]
      show uV _ (nuK κ x) = uV _ (nuK κ x - 1 + 1)
      rw [← e9]
    have l := uV_lt (f := zA κ (zR κ nuLimbs x)) (n := nuK κ x - 1)
    rw [p31_2] at l v
    have m1 := Nat.mul_le_mul_right (2 ^ (31 * (nuK κ x - 1))) f.1
    rw [Nat.succ_mul, ← Nat.pow_add, Nat.add_comm s] at m1
    refine ⟨by omega, fun _ => ?_⟩
    have g := f.2 (by omega)
    have m2 := Nat.mul_le_mul_right (2 ^ (31 * (nuK κ x - 1))) g.2
    rw [← Nat.pow_add] at m2
    have e8 : s - 1 + 31 * (nuK κ x - 1) = 31 * (nuK κ x - 1) + s - 1 := by omega
    rw [e8] at m2
    exact ⟨by omega, by omega⟩
theorem Nu_bits_c {C : zC} {n0 : Nat} {a0 : Nat} {κ : zS} {Q : Int32 → zS → Prop} (W : zW C n0 κ) (Ta0 : zT κ a0 = 8) (c9 : Nat) (hp : nuI κ a0 c9 ∧ c9 ≤ 30000000) (h : ∀ (v : Int32), ((0 ≤ v.toInt ∧ v.toInt ≤ 31 * nuK κ a0) ∧ nuN κ a0 < 2 ^ v.toInt.toNat ∧ (0 < nuN κ a0 → 1 ≤ v.toInt ∧ 2 ^ (v.toInt.toNat - 1) ≤ nuN κ a0)) → Q v κ) : zRun C 0 mNu_bits [.ref a0] κ (oI Q noX) := by
  refine Nu_bits_run W Ta0 ?_
  replace W := W.lo (Nat.le_trans W.1.2.1 W.1.2.2) (Nat.le_refl (zn κ))
  unfold w_Nu_bits_0
  obtain ⟨I0, p1⟩ := hp
  have k0 := nuK_i I0.1
  have lb := I0.1.1
  have lr := I0.1.2.1
  have hH : nuH κ a0 < 2147483648 := by
    unfold nuH
    split
    · decide
    · exact lim31 _
  have hs : ∀ s r, btI (nuH κ a0) s r → s ≤ 31 := fun s r h => btI_b h hH
  have hh44 : ∀ (l0 : Nat) (l1 : Int32) (l2 : Int32) (τ : zS), zW C (zn κ) τ → zT τ l0 = 8 → (κ = τ ∧ a0 = l0 ∧ 0 ≤ l2.toInt ∧ ∃ s : Nat, l1.toInt = 31 * ((nuK κ a0 - 1 : Nat) : Int) + s ∧ btI (nuH κ a0) s l2.toInt.toNat) → w_Nu_bits_44 C (zn κ) Q  l0 l1 l2 τ := by
    intro z0 z1 z2 τi Wi _ hinit
    unfold w_Nu_bits_44
    refine ⟨fun n l0 l1 l2 τ => n = l2.toInt.toNat ∧ (κ = τ ∧ a0 = l0 ∧ 0 ≤ l2.toInt ∧ ∃ s : Nat, l1.toInt = 31 * ((nuK κ a0 - 1 : Nat) : Int) + s ∧ btI (nuH κ a0) s l2.toInt.toNat), ⟨_, rfl, hinit⟩, ?_⟩
    clear hinit
    rintro n44 _ x44_1 x44_2 _ W44 T44_0 ⟨hn44, rfl, rfl, i44⟩
    obtain ⟨c44, s, e44, J44⟩ := i44
    have sb := hs _ _ J44
    refine ⟨fun c1 => ?_, fun c1 => ?_⟩
    · skip
      refine h _ ?_
      · rw [lei, t0i] at c1
        have e : x44_2.toInt.toNat = 0 := by omega
        rw [e] at J44
        have f := nuH_e I0 J44
        have ev : x44_1.toInt.toNat = 31 * (nuK κ a0 - 1) + s := by omega
        have zz : nuK κ a0 = 0 → s = 0 := fun z => by
          rcases J44.2 with y | y
          · exact y
          · have : nuH κ a0 = 0 := if_pos z
            have p : 0 < 2 ^ (s - 1) := Nat.pow_pos (by decide)
            omega
        refine ⟨⟨by omega, ?_⟩, by rw [ev]; exact f.1, fun z => ?_⟩
        · by_cases y : nuK κ a0 = 0
          · have := zz y
            omega
          · omega
        · have := f.2 z
          rw [ev]
          exact ⟨by omega, this.2⟩
    · skip
      intro x2 hx2
      intro x3 hx3
      refine ⟨_, ?_, rfl, ?_⟩
      · rw [lei, t0i] at c1
        rw [hn44, hx3, i_sh1]
        omega
      · rw [lei, t0i] at c1
        have e1 : x2.toInt = x44_1.toInt + 1 := by rw [hx2, add_i (by rw [t1i]; omega) (by rw [t1i]; omega), t1i]
        have e2 : x3.toInt = x44_2.toInt / 2 := by rw [hx3, i_sh1]
        have s9 := btI_s J44 (by omega)
        have e4 : x3.toInt.toNat = x44_2.toInt.toNat / 2 := by omega
        exact ⟨rfl, rfl, by omega, s + 1, by omega, by rw [e4]; exact s9⟩
  have hj20 : ∀ (l0 : Nat) (s0 : Int32) (τ : zS), zW C (zn κ) τ → zT τ l0 = 8 → (κ = τ ∧ a0 = l0 ∧ s0.toInt = 31 * ((nuK κ a0 - 1 : Nat) : Int)) → w_Nu_bits_20 C (zn κ) Q  l0 s0 τ := by
    rintro _ y20_s0 _ W20 T20_0 ⟨rfl, rfl, j20⟩
    unfold w_Nu_bits_20
    refine ⟨fun c4 => ?_, fun c4 => ?_⟩
    · skip
      refine hh44 _ _ _ _ W20 (by assumption) ?_
      · rw [lei, t0i] at c4
        have e : nuH κ a0 = 0 := if_pos (by omega)
        exact ⟨rfl, rfl, by decide, 0, by omega, by rw [e]; rfl, Or.inl rfl⟩
    · skip
      rw [lei, t0i] at c4
      have d5 := dec_i (x := zI κ nuLength a0) (by omega)
      have kd := cnk (x := zI κ nuLength a0 - 1) (by omega)
      have g5 := I0.1.2.2 (zI κ nuLength a0 - 1).toNatClampNeg (by omega)
      have kg := cnk g5
      refine ⟨?_, ?_⟩
      · rw [inb_iff]; omega  -- b5
      intro x5 hx5
      refine hh44 _ _ _ _ W20 (by assumption) ?_
      · have e : nuH κ a0 = (zA κ (zR κ nuLimbs a0) (nuK κ a0 - 1)).toNatClampNeg := if_neg (by omega)
        have e2 : (zI κ nuLength a0 - 1).toNatClampNeg = nuK κ a0 - 1 := by omega
        rw [e2] at hx5 g5 kg
        rw [hx5]
        refine ⟨rfl, rfl, g5, 0, by omega, ?_, Or.inl rfl⟩
        rw [e, Nat.pow_zero, Nat.div_one]
        omega
  refine ⟨fun c6 => ?_, fun c6 => ?_⟩
  · skip
    refine hj20 _ _ _ W ?_ ?_
    · exact Ta0  -- t7
    · rw [lei, t0i] at c6
      exact ⟨rfl, rfl, by rw [t0i]; omega⟩
  · skip
    refine hj20 _ _ _ W ?_ ?_
    · exact Ta0  -- t9
    · rw [lei, t0i] at c6
      have d5 := dec_i (x := zI κ nuLength a0) (by omega)
      have t31 : (31 : Int32).toInt = 31 := rfl
      refine ⟨rfl, rfl, ?_⟩
      rw [mul_i (by rw [d5, t31]; omega) (by rw [d5, t31]; omega), d5, t31]
      omega

theorem Nu_words_c {C : zC} {n0 : Nat} {a0 : Nat} {κ : zS} {Q : Int32 → zS → Prop} (W : zW C n0 κ) (Ta0 : zT κ a0 = 8) (c9 : Nat) (hp : nuI κ a0 c9 ∧ c9 ≤ 30000000) (h : ∀ (v : Int32), (0 ≤ v.toInt) → Q v κ) : zRun C 1 mNu_words [.ref a0] κ (oI Q noX) := by
  refine Nu_words_run W Ta0 ?_
  replace W := W.lo (Nat.le_trans W.1.2.1 W.1.2.2) (Nat.le_refl (zn κ))
  unfold w_Nu_words_0
  intro T1
  refine Nu_bits_c W T1 c9 ?_ (fun r2 q4 => ?_)
  · exact hp  -- p1
  intro W5
  intro M6
  refine ⟨?_, ?_⟩
  · decide  -- b2
  refine h _ ?_
  · have k := nuK_i hp.1.1
    have l1 := hp.1.1.1
    have l2 := hp.1.1.2.1
    have l3 := hp.2
    have l4 := q4.1
    have t31 : (31 : Int32).toInt = 31 := rfl
    have e : (r2 + 31).toInt = r2.toInt + 31 := by rw [add_i (by rw [t31]; omega) (by rw [t31]; omega), t31]
    rw [div_i (by rw [e]; omega) (by decide), e]
    exact Int.ediv_nonneg (by omega) (by decide)

theorem Nu_word_c {C : zC} {n0 : Nat} {a0 : Nat} {a1 : Int32} {κ : zS} {Q : Int32 → zS → Prop} (W : zW C n0 κ) (Ta0 : zT κ a0 = 8) (c9 : Nat) (hp : nuB κ a0 c9) (h : ∀ (v : Int32), (True) → Q v κ) : zRun C 0 mNu_word [.ref a0, .int a1] κ (oI Q noX) := by
  refine Nu_word_run W Ta0 ?_
  replace W := W.lo (Nat.le_trans W.1.2.1 W.1.2.2) (Nat.le_refl (zn κ))
  unfold w_Nu_word_0
  have lb := hp.1
  have hj70 : ∀ (l0 : Nat) (l3 : Int32) (l4 : Int64) (s0 : Int64) (τ : zS), zW C (zn κ) τ → zT τ l0 = 8 → (κ = τ ∧ a0 = l0 ∧ True) → w_Nu_word_70 C (zn κ) Q  l0 l3 l4 s0 τ := by
    rintro _ y70_3 y70_4 y70_s0 _ W70 T70_0 ⟨rfl, rfl, j70⟩
    unfold w_Nu_word_70
    refine h _ ?_
    · trivial  -- q1
  have hj39 : ∀ (l0 : Nat) (l2 : Int32) (l3 : Int32) (s0 : Int64) (τ : zS), zW C (zn κ) τ → zT τ l0 = 8 → (κ = τ ∧ a0 = l0 ∧ True) → w_Nu_word_39 C (zn κ) Q  l0 l2 l3 s0 τ := by
    rintro _ y39_2 y39_3 y39_s0 _ W39 T39_0 ⟨rfl, rfl, j39⟩
    unfold w_Nu_word_39
    refine ⟨fun c1 => ?_, fun c1 => ?_⟩
    · skip
      refine hj70 _ _ _ _ _ W39 ?_ ?_
      · exact T39_0  -- t2
      · exact ⟨rfl, rfl, trivial⟩  -- k3
    · skip
      refine ⟨fun c2 => ?_, fun c2 => ?_⟩
      · skip
        refine hj70 _ _ _ _ _ W39 ?_ ?_
        · exact T39_0  -- t4
        · exact ⟨rfl, rfl, trivial⟩  -- k5
      · skip
        refine ⟨?_, ?_⟩
        · rw [lti, t0i] at c1
          rw [lei] at c2
          rw [inb_iff]; omega
        refine hj70 _ _ _ _ _ W39 ?_ ?_
        · exact T39_0  -- t7
        · exact ⟨rfl, rfl, trivial⟩  -- k8
  refine ⟨?_, ?_⟩
  · decide  -- b9
  intro x3 hx3
  refine ⟨?_, ?_⟩
  · decide  -- b10
  intro x4 hx4
  refine ⟨fun c5 => ?_, fun c5 => ?_⟩
  · skip
    refine hj39 _ _ _ _ _ W ?_ ?_
    · exact Ta0  -- t11
    · exact ⟨rfl, rfl, trivial⟩  -- k12
  · skip
    refine ⟨fun c6 => ?_, fun c6 => ?_⟩
    · skip
      refine hj39 _ _ _ _ _ W ?_ ?_
      · exact Ta0  -- t13
      · exact ⟨rfl, rfl, trivial⟩  -- k14
    · skip
      refine ⟨?_, ?_⟩
      · rw [lti, t0i] at c5
        rw [lei] at c6
        rw [inb_iff]; omega
      refine hj39 _ _ _ _ _ W ?_ ?_
      · exact Ta0  -- t16
      · exact ⟨rfl, rfl, trivial⟩  -- k17
