set_option maxHeartbeats 1600000
/-! the class: Calc's divide -/
def oo2 (a b : Nat) : Nat → Prop := fun x => x = a ∨ x = b
def oo3 (a b c : Nat) : Nat → Prop := fun x => x = a ∨ x = b ∨ x = c
theorem oo3_n {a b c x : Nat} (h1 : x ≠ a) (h2 : x ≠ b) (h3 : x ≠ c) : ¬ oo3 a b c x := fun z => (show x = a ∨ x = b ∨ x = c from z).elim h1 (fun z => z.elim h2 h3)
theorem oo2_n {a b x : Nat} (h1 : x ≠ a) (h2 : x ≠ b) : ¬ oo2 a b x := fun z => (show x = a ∨ x = b from z).elim h1 h2
theorem oo2_3 {a b c x : Nat} (z : oo2 a b x) : oo3 a b c x := (show x = a ∨ x = b from z).elim Or.inl (fun y => Or.inr (Or.inl y))
/-- what a division leaves -/
def dvO (κ κ' : zS) (q r d A B c : Nat) : Prop := zF (nuFp (oo3 q r d)) κ κ' ∧ (nuI κ' q c ∧ nuN κ' q = A / B) ∧ (nuI κ' r c ∧ nuN κ' r = A % B) ∧ nuC κ' d c
theorem kq_q1 {R S g : Nat} (hS : 0 < S) (h : g * S < R + S) : g ≤ R / S + 1 := kq_q hS (by rw [Nat.one_mul]; exact h)
theorem j_n0 {x : Int64} (h : 0 < x.toInt) : ¬ x = 0 := fun z => by
  rw [z] at h
  exact absurd h (by decide)
theorem Ca_divide_231_c {C : zC} {c9 a0 a1 a2 : Nat} {κ κ_66 : zS} {Q : zS → Prop} {x45 x51 x73 : Int32} {x70 x71 : Int64} {x72 : Nat} (W68 : zW C (zn κ) κ_66) (Ta1 : zT κ_66 a1 = 8) (Tq66 : zT κ_66 (zR κ caQuotient a0) = 8) (Tr66 : zT κ_66 (zR κ caRest a0) = 8) (Td66 : zT κ_66 (zR κ caDivisor a0) = 8) (nqr : (zR κ caQuotient a0) ≠ (zR κ caRest a0)) (nqd : (zR κ caQuotient a0) ≠ (zR κ caDivisor a0)) (nrd : (zR κ caRest a0) ≠ (zR κ caDivisor a0)) (n1q : a1 ≠ (zR κ caQuotient a0)) (n1r : a1 ≠ (zR κ caRest a0)) (eQ66 : zR κ_66 caQuotient a0 = (zR κ caQuotient a0)) (eR66 : zR κ_66 caRest a0 = (zR κ caRest a0)) (eD66 : zR κ_66 caDivisor a0 = (zR κ caDivisor a0)) (Z66 : zF (nuFp (oo3 (zR κ caQuotient a0) (zR κ caRest a0) (zR κ caDivisor a0))) κ κ_66) (BQ : nuB κ_66 (zR κ caQuotient a0) c9) (KQ : nuK κ_66 (zR κ caQuotient a0) = nuK κ a1 + 1) (BR66 : nuB κ_66 (zR κ caRest a0) c9) (KR66 : nuK κ_66 (zR κ caRest a0) = nuK κ a1 + 1) (BD66 : nuB κ_66 (zR κ caDivisor a0) c9) (KD66 : nuK κ_66 (zR κ caDivisor a0) = nuK κ a2 + 1) (UR : uV (zA κ_66 (zR κ_66 nuLimbs (zR κ caRest a0))) (nuK κ a1 + 1) = nuN κ a1 * 2 ^ x51.toInt.toNat) (nz : uV (zA κ_66 (zR κ_66 nuLimbs (zR κ caDivisor a0))) (nuK κ a2) = nuN κ a2 * 2 ^ x51.toInt.toNat ∧ 1073741824 ≤ (zA κ_66 (zR κ_66 nuLimbs (zR κ caDivisor a0)) (nuK κ a2 - 1)).toNatClampNeg) (lt1 : nuN κ a1 < 2147483648 ^ nuK κ a1) (ge2 : 2147483648 ^ nuK κ a1 ≤ nuN κ a2 * 2147483648 ^ (nuK κ a1 + 1 - nuK κ a2)) (N20 : 0 < nuN κ a2) (mk : 2 ≤ nuK κ a2 ∧ nuK κ a2 ≤ nuK κ a1) (p1 : nuK κ a1 + 1 + (nuK κ a1 + 1) / 2 + 2 ≤ c9) (p2 : c9 ≤ 30000000) (u1 : (zI κ_66 nuLength a1).toInt = nuK κ a1) (e45b : x45.toInt = nuK κ a2) (e51 : 0 ≤ x51.toInt ∧ x51.toInt ≤ 30) (e70 : x70.toInt = ((zA κ_66 (zR κ_66 nuLimbs (zR κ caDivisor a0)) (nuK κ a2 - 1)).toNatClampNeg : Int)) (e71 : x71.toInt = ((zA κ_66 (zR κ_66 nuLimbs (zR κ caDivisor a0)) (nuK κ a2 - 2)).toNatClampNeg : Int)) (e72 : x72 = zR κ_66 nuLimbs (zR κ caRest a0)) (e73 : x73.toInt = (nuK κ a1 : Int) - nuK κ a2) (h : ∀ κ', dvO κ κ' (zR κ caQuotient a0) (zR κ caRest a0) (zR κ caDivisor a0) (nuN κ a1) (nuN κ a2) c9 → Q κ') : w_Ca_divide_231 C (zn κ) Q a0 a1 x45 x51 x70 x71 x72 x73 κ_66 := by
  have fR : ∀ {x : Nat} {σ τ : zS}, zF (nuF x) σ τ → zR τ caRest a0 = zR σ caRest a0 := fun Z => nuF_r Z (by decide) (by decide)
  have oQ : oo3 (zR κ caQuotient a0) (zR κ caRest a0) (zR κ caDivisor a0) (zR κ caQuotient a0) := Or.inl rfl
  have oR : oo3 (zR κ caQuotient a0) (zR κ caRest a0) (zR κ caDivisor a0) (zR κ caRest a0) := Or.inr (Or.inl rfl)
  have t2 : (2 : Int32).toInt = 2 := rfl
  have pq : 0 < 2 ^ x51.toInt.toNat := Nat.pow_pos (by decide)
  have S0 : 0 < uV (zA κ_66 (zR κ_66 nuLimbs (zR κ caDivisor a0))) (nuK κ a2) := by rw [nz.1]; exact Nat.mul_pos N20 pq
  have kr6 := nuK_i BR66
  have kq6 := nuK_i BQ
  have kd6 := nuK_i BD66
  have lr6 := BR66.1
  have lq6 := BQ.1
  have ld6 := BD66.1
  have cr6 := BR66.2.1
  have cq6 := BQ.2.1
  have cd6 := BD66.2.1
  have dn : ∀ j, j < nuK κ a2 → 0 ≤ (zA κ_66 (zR κ_66 nuLimbs (zR κ caDivisor a0)) j).toInt := fun j hj => BD66.2.2 j (by omega)
  have lhd := lim31 (zA κ_66 (zR κ_66 nuLimbs (zR κ caDivisor a0)) (nuK κ a2 - 1))
  have lhs := lim31 (zA κ_66 (zR κ_66 nuLimbs (zR κ caDivisor a0)) (nuK κ a2 - 2))
  have m2 := mk.1
  have kl := mk.2
  unfold w_Ca_divide_231
  refine ⟨fun n l0 l1 l3 l4 l5 l7 l9 l10 τ => n = (l10.toInt + 1).toNat ∧ (a0 = l0 ∧ a1 = l1 ∧ (x45 = l3 ∧ x51 = l4 ∧ x70 = l5 ∧ x71 = l7 ∧ x72 = l9) ∧ (-1 ≤ l10.toInt ∧ l10.toInt ≤ x73.toInt) ∧ nuEp (oo2 (zR κ caQuotient a0) (zR κ caRest a0)) κ_66 τ ∧ dwI (zA κ_66 x72) (zA τ x72) (zA τ (zR κ_66 nuLimbs (zR κ caQuotient a0))) (zA κ_66 (zR κ_66 nuLimbs (zR κ caDivisor a0))) (nuK κ a2) (nuK κ a1 + 1) (l10.toInt + 1).toNat), ⟨_, rfl, ?_⟩, ?_⟩
  · refine ⟨rfl, rfl, ⟨rfl, rfl, rfl, rfl, rfl⟩, by omega, nuEp.rf, ?_⟩
    have e9 : (x73.toInt + 1).toNat = nuK κ a1 + 1 - nuK κ a2 := by omega
    rw [e9, e72]
    refine dwI_0 (K := nuK κ a1) (A := nuN κ a1) (S := nuN κ a2) (q := 2 ^ x51.toInt.toNat) (by omega) (fun j hj => BR66.2.2 j (by omega)) UR nz.1 pq lt1 ge2
  rintro n231 _ _ x231_3 x231_4 x231_5 x231_7 x231_9 x231_10 κ231 W231 T231_0 T231_1 T231_2 ⟨hn231, rfl, rfl, i231⟩
  obtain ⟨⟨rfl, rfl, rfl, rfl, rfl⟩, k231, E231, J231⟩ := i231
  have rs := E231.2.1
  have is := E231.2.2.1
  have ns := E231.2.2.2
  have ud := nuFp_z W68 Td66 E231.1 (oo2_n nqd.symm nrd.symm)
  have hj345 : ∀ (l0 : Nat) (l1 : Nat) (l3 : Int32) (l4 : Int32) (l5 : Int64) (l7 : Int64) (l9 : Nat) (l10 : Int32) (l13 : Int64) (τ : zS), zW C (zn κ) τ → zT τ l0 = 4 → zT τ l1 = 8 → zT τ l9 = 20 → (a0 = l0 ∧ a1 = l1 ∧ κ231 = τ ∧ (x45 = l3 ∧ x51 = l4 ∧ x70 = l5 ∧ x71 = l7 ∧ x72 = l9 ∧ x231_10 = l10) ∧ 0 ≤ x231_10.toInt ∧ (0 ≤ l13.toInt ∧ l13.toInt < 2147483648) ∧ uV (uW (zA κ231 x72) x231_10.toNatClampNeg) (nuK κ a2 + 1) / uV (zA κ_66 (zR κ_66 nuLimbs (zR κ caDivisor a0))) (nuK κ a2) ≤ l13.toInt.toNat ∧ l13.toInt.toNat ≤ uV (uW (zA κ231 x72) x231_10.toNatClampNeg) (nuK κ a2 + 1) / uV (zA κ_66 (zR κ_66 nuLimbs (zR κ caDivisor a0))) (nuK κ a2) + 1) → w_Ca_divide_345 C (zn κ) Q (fun (l0' : Nat) (l1' : Nat) (l3' : Int32) (l4' : Int32) (l5' : Int64) (l7' : Int64) (l9' : Nat) (l10' : Int32) (τ : zS) => ∃ k < n231, (fun (n : Nat) (l0 : Nat) (l1 : Nat) (l3 : Int32) (l4 : Int32) (l5 : Int64) (l7 : Int64) (l9 : Nat) (l10 : Int32) (τ : zS) => n = (l10.toInt + 1).toNat ∧ (a0 = l0 ∧ a1 = l1 ∧ (x45 = l3 ∧ x51 = l4 ∧ x70 = l5 ∧ x71 = l7 ∧ x72 = l9) ∧ (-1 ≤ l10.toInt ∧ l10.toInt ≤ x73.toInt) ∧ nuEp (oo2 (zR κ caQuotient a0) (zR κ caRest a0)) κ_66 τ ∧ dwI (zA κ_66 x72) (zA τ x72) (zA τ (zR κ_66 nuLimbs (zR κ caQuotient a0))) (zA κ_66 (zR κ_66 nuLimbs (zR κ caDivisor a0))) (nuK κ a2) (nuK κ a1 + 1) (l10.toInt + 1).toNat)) k l0' l1' l3' l4' l5' l7' l9' l10' τ) l0 l1 l3 l4 l5 l7 l9 l10 l13 τ := by
    rintro _ _ y345_3 y345_4 y345_5 y345_7 y345_9 y345_10 y345_13 τ345 W345 T345_0 T345_1 T345_2 ⟨rfl, rfl, j345⟩
    unfold w_Ca_divide_345
    intro T74
    intro T75
    obtain ⟨rfl, ⟨rfl, rfl, rfl, rfl, rfl, rfl⟩, p0, g0, g1, g2⟩ := j345
    have kp := cnk p0
    have ep : x231_10.toInt.toNat = x231_10.toNatClampNeg := rfl
    have ep1 : (x231_10.toInt + 1).toNat = x231_10.toNatClampNeg + 1 := by omega
    rw [ep1] at J231
    have em : x45.toInt.toNat = nuK κ a2 := by omega
    have Tr2 : zT κ231 (zR κ caRest a0) = 8 := E231.1.t Tr66 (by decide)
    have Tq2 : zT κ231 (zR κ caQuotient a0) = 8 := E231.1.t Tq66 (by decide)
    have Td2 : zT κ231 (zR κ caDivisor a0) = 8 := E231.1.t Td66 (by decide)
    refine Nu_takeAt_c W345 T74 T75 c9 ?_ (fun r76 κ_77 q78 => ?_)
    · rw [rs, eR66, eD66, ns, ← e72, ep, em, ud.2.2.1]
      refine ⟨nrd, ⟨p0, by omega, ?_, ?_⟩, ⟨?_, p2⟩, g0, fun j hj => ?_, dn, S0, g1, g2⟩
      · rw [e72]; omega
      · omega
      · rw [e72]; omega
      · exact J231.2.2.1 (x231_10.toNatClampNeg + j) (by omega)
    rw [rs, eR66, eD66, ← e72, ep, em, ud.2.2.1] at q78
    obtain ⟨E77, V77, w77, n77, o77⟩ := q78
    have uq := nu_z W231 Tq2 E77.1 (fun z => nqr z.1) (fun z => nqr z.1)
    rw [rs] at uq
    intro W79
    intro M80
    refine ⟨?_, ?_⟩
    · rw [rs, eQ66, E77.2.2.2, ns, inb_iff]; omega  -- b24
    intro κ_81 hκ_81
    intro W82
    intro x83 hx83
    have e83 : x83.toInt = x231_10.toInt - 1 := by rw [hx83, add_i (by rw [tmi]; omega) (by rw [tmi]; omega), tmi]; omega
    refine ⟨_, ?_, rfl, ?_⟩
    · rw [hn231]; omega  -- d25
    · have Tq77 : zT κ_77 (zR κ caQuotient a0) = 8 := E77.1.t Tq2 (by decide)
      have Tr77 : zT κ_77 (zR κ caRest a0) = 8 := E77.1.t Tr2 (by decide)
      have hκ' : κ_81 = ua κ_77 (zR κ_77 nuLimbs (zR κ caQuotient a0)) x231_10.toNatClampNeg r76.toInt32 := by rw [E77.2.1, rs]; rw [rs, eQ66] at hκ_81; exact hκ_81
      obtain ⟨v1', v2, v3⟩ := nu_u W79 Tq77 hκ'
      have nn := nu_ne W79 Tr77 Tq77 nqr.symm
      rw [E77.2.1, rs] at v2 nn
      rw [uq.2.2.1] at v2
      have ra : zA κ_81 x72 = zA κ_77 x72 := by
        rw [hκ', E77.2.1, rs, e72]
        exact if_neg nn
      have lq : uV (uW (zA κ231 x72) x231_10.toNatClampNeg) (nuK κ a2 + 1) / uV (zA κ_66 (zR κ_66 nuLimbs (zR κ caDivisor a0))) (nuK κ a2) < 2147483648 := by
        rw [Nat.div_lt_iff_lt_mul S0]
        exact dwI_R J231
      have v0 : 0 ≤ r76.toInt := by rw [V77]; exact Int.natCast_nonneg _
      have f7 := j_i32 (x := r76) v0 (by rw [V77]; omega)
      have kf := cnk (x := r76.toInt32) (by rw [f7]; exact v0)
      have s := dwI_s (X' := zA κ_81 x72) (v := r76.toInt32) J231 (by rw [ra]; exact w77) (fun j hj => by rw [ra]; exact n77 j hj) (fun j hj => by rw [ra]; exact o77 j hj) v2 (by
        have : ((r76.toInt32).toNatClampNeg : Int) = ((uV (uW (zA κ231 x72) x231_10.toNatClampNeg) (nuK κ a2 + 1) / uV (zA κ_66 (zR κ_66 nuLimbs (zR κ caDivisor a0))) (nuK κ a2) : Nat) : Int) := by rw [kf, f7, V77]
        exact Int.ofNat.inj this) (by rw [f7]; exact v0)
      have e9 : (x83.toInt + 1).toNat = x231_10.toNatClampNeg := by omega
      exact ⟨rfl, rfl, ⟨rfl, rfl, rfl, rfl, rfl⟩, by omega, (E231.tr (E77.up (Or.inr rfl))).tr (v1'.up (Or.inl rfl)), by rw [e9]; exact s⟩
  have fin : x231_10 < 0 → dwI (zA κ_66 x72) (zA κ231 x72) (zA κ231 (zR κ_66 nuLimbs (zR κ caQuotient a0))) (zA κ_66 (zR κ_66 nuLimbs (zR κ caDivisor a0))) (nuK κ a2) (nuK κ a1 + 1) 0 := fun z => by
    rw [lti, t0i] at z
    have e9 : (x231_10.toInt + 1).toNat = 0 := by omega
    rw [e9] at J231
    exact J231
  have u23 := nuFp_z W68 Ta1 E231.1 (oo2_n n1q n1r)
  have eL : (zI κ231 nuLength a1 - x45 + 1).toInt = (nuK κ a1 : Int) - nuK κ a2 + 1 := by
    have e9 : (zI κ231 nuLength a1 - x45).toInt = (nuK κ a1 : Int) - nuK κ a2 := by
      rw [u23.1, sub_i (by rw [u1, e45b]; omega) (by rw [u1, e45b]; omega), u1, e45b]
    rw [add_i (by rw [e9, t1i]; omega) (by rw [e9, t1i]; omega), e9, t1i]
  have eLn : (zI κ231 nuLength a1 - x45 + 1).toInt.toNat = nuK κ a1 + 1 - nuK κ a2 := by omega
  have em : x45.toInt.toNat = nuK κ a2 := by omega
  refine ⟨fun c84 => ?_, fun c84 => ?_⟩
  · skip
    intro T85
    refine Nu_shiftBack_c W231 T85 c9 ?_ (fun κ_86 q87 => ?_)
    · have f := fin c84
      rw [rs, eQ66, ns]
      refine ⟨by omega, cq6, ⟨by decide, by decide⟩, fun i hi => f.2.2.2.2.2 i (Nat.zero_le _) (by omega)⟩
    have f := fin c84
    rw [rs, eQ66, eLn] at q87
    obtain ⟨F86, I86, V86⟩ := q87
    have eR86 : zR κ_86 caRest a0 = (zR κ caRest a0) := (fR F86).trans (by rw [rs]; exact eR66)
    have Tr2 : zT κ231 (zR κ caRest a0) = 8 := E231.1.t Tr66 (by decide)
    have Tq2 : zT κ231 (zR κ caQuotient a0) = 8 := E231.1.t Tq66 (by decide)
    have ur := nu_z W231 Tr2 F86 (fun z => nqr z.1.symm) (fun z => nqr z.1.symm)
    rw [rs] at ur
    intro W88
    intro M89
    intro T90
    refine Nu_shiftBack_c W88 T90 c9 ?_ (fun κ_91 q92 => ?_)
    · rw [eR86, ur.2.1, ur.2.2.2, ns, ur.2.2.1, ← e72]
      refine ⟨by rw [e72]; omega, by rw [e72]; exact cr6, by omega, fun i hi => f.2.2.1 i (by omega)⟩
    intro W93
    intro M94
    refine h _ ?_
    · rw [eR86, ur.2.1, ur.2.2.1, em, ← e72] at q92
      obtain ⟨F91, I91, V91⟩ := q92
      have Tq86 : zT κ_86 (zR κ caQuotient a0) = 8 := F86.t Tq2 (by decide)
      have bq := nuB_z (c := c9) W88 Tq86 F91 (fun z => nqr z.1) (fun z => nqr z.1)
      have e := dwI_e f (by rw [e72]; exact UR) nz.1 N20 pq
      have Zf : zF (nuFp (oo3 (zR κ caQuotient a0) (zR κ caRest a0) (zR κ caDivisor a0))) κ κ_91 := (((Z66.tr (nuFp_p (fun b z => oo2_3 z) E231.1)).tr (nuFp_m oQ F86)).tr (nuFp_m oR F91))
      have Z6 : zF (nuFp (oo2 (zR κ caQuotient a0) (zR κ caRest a0))) κ_66 κ_91 := (E231.1.tr (nuFp_m (Or.inl rfl) F86)).tr (nuFp_m (Or.inr rfl) F91)
      refine ⟨Zf, ⟨bq.2.1 I86, ?_⟩, ⟨I91, by rw [V91]; exact e.2⟩, nuFp_C W68 Td66 Z6 (oo2_n nqd.symm nrd.symm) cd6⟩
      rw [bq.2.2.1, V86]
      show _ / 2 ^ 0 = _
      rw [Nat.pow_zero, Nat.div_one]
      exact e.1
  · skip
    rw [lti, t0i] at c84
    have kp := cnk (x := x231_10) (by omega)
    have ep1 : (x231_10.toInt + 1).toNat = x231_10.toNatClampNeg + 1 := by omega
    rw [ep1] at J231
    have ea : (x231_10 + x45).toInt = x231_10.toInt + nuK κ a2 := by rw [add_i (by omega) (by omega), e45b]
    have ka := cnk (x := x231_10 + x45) (by omega)
    have na : (x231_10 + x45).toNatClampNeg = x231_10.toNatClampNeg + nuK κ a2 := by omega
    have eb : (x231_10 + x45 - 1).toInt = x231_10.toInt + nuK κ a2 - 1 := by rw [dec_i (by omega), ea]
    have kb := cnk (x := x231_10 + x45 - 1) (by omega)
    have nb : (x231_10 + x45 - 1).toNatClampNeg = x231_10.toNatClampNeg + (nuK κ a2 - 1) := by omega
    have ec : (x231_10 + x45 - 2).toInt = x231_10.toInt + nuK κ a2 - 2 := by rw [sub_i (by rw [t2]; omega) (by rw [t2]; omega), ea, t2]
    have kc := cnk (x := x231_10 + x45 - 2) (by omega)
    have nc : (x231_10 + x45 - 2).toNatClampNeg = x231_10.toNatClampNeg + (nuK κ a2 - 2) := by omega
    have wm := J231.2.2.1 (x231_10.toNatClampNeg + nuK κ a2) (by omega)
    have wm1 := J231.2.2.1 (x231_10.toNatClampNeg + (nuK κ a2 - 1)) (by omega)
    have wm2 := J231.2.2.1 (x231_10.toNatClampNeg + (nuK κ a2 - 2)) (by omega)
    have km := cnk wm
    have km1 := cnk wm1
    have km2 := cnk wm2
    have lm := lim31 (zA κ231 x72 (x231_10.toNatClampNeg + nuK κ a2))
    have lm1 := lim31 (zA κ231 x72 (x231_10.toNatClampNeg + (nuK κ a2 - 1)))
    have lm2 := lim31 (zA κ231 x72 (x231_10.toNatClampNeg + (nuK κ a2 - 2)))
    have nx : zN κ231 x72 = zN κ_66 (zR κ_66 nuLimbs (zR κ caRest a0)) := by rw [ns, e72]
    refine ⟨?_, ?_⟩
    · rw [nx, inb_iff, ea]; omega  -- b30
    refine ⟨?_, ?_⟩
    · rw [nx, inb_iff, eb]; omega  -- b31
    intro x95 hx95
    rw [na, nb] at hx95
    have b1 : (zA κ231 x72 (x231_10.toNatClampNeg + nuK κ a2)).toInt64.toInt = (zA κ231 x72 (x231_10.toNatClampNeg + nuK κ a2)).toInt := Int32.toInt_toInt64 _
    have tw := j_top (a := (zA κ231 x72 (x231_10.toNatClampNeg + nuK κ a2)).toInt64) (y := zA κ231 x72 (x231_10.toNatClampNeg + (nuK κ a2 - 1))) (by omega) (by omega) wm1
    rw [← hx95, b1] at tw
    have twn : x95.toInt.toNat = (zA κ231 x72 (x231_10.toNatClampNeg + nuK κ a2)).toNatClampNeg * 2147483648 + (zA κ231 x72 (x231_10.toNatClampNeg + (nuK κ a2 - 1))).toNatClampNeg := by omega
    have hR := kw_R (D := uW (zA κ231 x72) x231_10.toNatClampNeg) (m := nuK κ a2) (by omega)
    have hS := kw_S (D := zA κ_66 (zR κ_66 nuLimbs (zR κ caDivisor a0))) (m := nuK κ a2) (by omega)
    have hR' : uV (uW (zA κ231 x72) x231_10.toNatClampNeg) (nuK κ a2 + 1) = uV (uW (zA κ231 x72) x231_10.toNatClampNeg) (nuK κ a2 - 2) + x95.toInt.toNat * (2147483648 * 2147483648 ^ (nuK κ a2 - 2)) + (zA κ231 x72 (x231_10.toNatClampNeg + (nuK κ a2 - 2))).toNatClampNeg * 2147483648 ^ (nuK κ a2 - 2) := by
      rw [twn]
      exact hR
    have e70n : (zA κ_66 (zR κ_66 nuLimbs (zR κ caDivisor a0)) (nuK κ a2 - 1)).toNatClampNeg = x70.toInt.toNat := by omega
    have e71n : (zA κ_66 (zR κ_66 nuLimbs (zR κ caDivisor a0)) (nuK κ a2 - 2)).toNatClampNeg = x71.toInt.toNat := by omega
    rw [e70n, e71n] at hS
    have nzh := nz.2
    rw [e70n] at nzh
    have lR := uV_lt (f := uW (zA κ231 x72) x231_10.toNatClampNeg) (n := nuK κ a2 - 2)
    have lS := uV_lt (f := zA κ_66 (zR κ_66 nuLimbs (zR κ caDivisor a0))) (n := nuK κ a2 - 2)
    have qS := Nat.div_mul_le_self (uV (uW (zA κ231 x72) x231_10.toNatClampNeg) (nuK κ a2 + 1)) (uV (zA κ_66 (zR κ_66 nuLimbs (zR κ caDivisor a0))) (nuK κ a2))
    have lo := kq_lo hR' hS rfl lR lm2 qS (by omega)
    have q31 : uV (uW (zA κ231 x72) x231_10.toNatClampNeg) (nuK κ a2 + 1) / uV (zA κ_66 (zR κ_66 nuLimbs (zR κ caDivisor a0))) (nuK κ a2) < 2147483648 := by
      rw [Nat.div_lt_iff_lt_mul S0]
      exact dwI_R J231
    generalize hq9 : uV (uW (zA κ231 x72) x231_10.toNatClampNeg) (nuK κ a2 + 1) / uV (zA κ_66 (zR κ_66 nuLimbs (zR κ caDivisor a0))) (nuK κ a2) = q9 at *
    have d9 := jdiv_i (x := x95) (y := x70) (by omega) (by omega)
    have d9n : (x95 / x70).toInt = ((x95.toInt.toNat / x70.toInt.toNat : Nat) : Int) := by
      rw [d9, Int.natCast_ediv]
      congr 1 <;> omega
    have dml := Nat.div_mul_le_self x95.toInt.toNat x70.toInt.toNat
    refine ⟨?_, ?_⟩
    · exact j_n0 (by omega)  -- b32
    intro x96 hx96
    intro x97 hx97
    unfold w_Ca_divide_286
    refine ⟨fun n l0 l1 l3 l4 l5 l7 l9 l10 l13 l15 l17 τ => n = (3 - l17.toInt).toNat ∧ (a0 = l0 ∧ a1 = l1 ∧ κ231 = τ ∧ (x45 = l3 ∧ x51 = l4 ∧ x70 = l5 ∧ x71 = l7 ∧ x72 = l9 ∧ x231_10 = l10) ∧ (0 ≤ l17.toInt ∧ l17.toInt ≤ 3) ∧ (0 ≤ l13.toInt ∧ 0 ≤ l15.toInt) ∧ gsI x95.toInt.toNat x70.toInt.toNat (uV (uW (zA κ231 x72) x231_10.toNatClampNeg) (nuK κ a2 + 1) / uV (zA κ_66 (zR κ_66 nuLimbs (zR κ caDivisor a0))) (nuK κ a2)) l13.toInt.toNat l15.toInt.toNat l17.toInt.toNat), ⟨_, rfl, ?_⟩, ?_⟩
    · have tM : (2147483647 : Int64).toInt = 2147483647 := rfl
      have g9 : 0 ≤ x96.toInt ∧ x96.toInt.toNat < 2147483648 ∧ x96.toInt.toNat ≤ x95.toInt.toNat / x70.toInt.toNat ∧ q9 ≤ x96.toInt.toNat := by
        rw [hx96]
        by_cases z : (2147483647 : Int64) < x95 / x70
        · rw [if_pos z]
          rw [jlti, tM, d9n] at z
          rw [tM]
          omega
        · rw [if_neg z]
          rw [jlti, tM, d9n] at z
          rw [d9n]
          rw [Int.toNat_natCast]
          omega
      obtain ⟨h0, h1, h2, h3⟩ := g9
      have mg : x96.toInt.toNat * x70.toInt.toNat ≤ x95.toInt.toNat := Nat.le_trans (Nat.mul_le_mul_right _ h2) dml
      have em : x96.toInt * x70.toInt = ((x96.toInt.toNat * x70.toInt.toNat : Nat) : Int) := by
        rw [Int.natCast_mul]
        congr 1 <;> omega
      have e1 : (x96 * x70).toInt = ((x96.toInt.toNat * x70.toInt.toNat : Nat) : Int) := by rw [jmul_i (by rw [em]; omega) (by rw [em]; omega), em]
      have e2 : x97.toInt = x95.toInt - ((x96.toInt.toNat * x70.toInt.toNat : Nat) : Int) := by rw [hx97, jsub_i (by rw [e1]; omega) (by rw [e1]; omega), e1]
      have up := kq_q S0 (kq_up hR' hS rfl lS (by omega) mg h1 nzh)
      rw [hq9] at up
      refine ⟨rfl, rfl, rfl, ⟨rfl, rfl, rfl, rfl, rfl, rfl⟩, ⟨by decide, by decide⟩, ⟨h0, by omega⟩, ?_⟩
      rw [hq9]
      exact ⟨h1, by omega, h3, up⟩
    rintro n286 _ _ x286_3 x286_4 x286_5 x286_7 x286_9 x286_10 x286_13 x286_15 x286_17 κ286 W286 T286_0 T286_1 T286_2 ⟨hn286, rfl, rfl, i286⟩
    obtain ⟨rfl, ⟨rfl, rfl, rfl, rfl, rfl, rfl⟩, k286, c286, J286⟩ := i286
    rw [hq9] at J286
    obtain ⟨ga, gb, gc, gd⟩ := J286
    have t3 : (3 : Int32).toInt = 3 := rfl
    have tM : (2147483647 : Int64).toInt = 2147483647 := rfl
    have mg : x286_13.toInt.toNat * x70.toInt.toNat ≤ x95.toInt.toNat := by omega
    have eo : x95.toInt.toNat - x286_13.toInt.toNat * x70.toInt.toNat = x286_15.toInt.toNat := by omega
    have exi : id ((2147483648 ≤ x286_15.toInt.toNat ∨ x286_13.toInt.toNat * x71.toInt.toNat ≤ x286_15.toInt.toNat * 2147483648 + (zA κ231 x72 (x231_10.toNatClampNeg + (nuK κ a2 - 2))).toNatClampNeg) → x286_13.toInt.toNat ≤ q9 + 1) := fun z => by
      rw [← eo] at z
      have x := kq_ex hR' hS rfl lS (by omega) mg ga (by omega) z
      have y := kq_q1 S0 x
      rw [hq9] at y
      exact y
    refine ⟨fun c98 => ?_, fun c98 => ?_⟩
    · skip
      refine hj345 _ _ _ _ _ _ _ _ _ _ W286 ?_ ?_ ?_ ?_
      · exact T286_0  -- t34
      · exact T286_1  -- t35
      · exact T286_2  -- t36
      · rw [lei, t3] at c98
        exact absurd gd (by omega)
    · skip
      refine ⟨fun c99 => ?_, fun c99 => ?_⟩
      · skip
        refine hj345 _ _ _ _ _ _ _ _ _ _ W286 ?_ ?_ ?_ ?_
        · exact T286_0  -- t38
        · exact T286_1  -- t39
        · exact T286_2  -- t40
        · rw [lg_cmp_gt, jlti, tM] at c99
          refine ⟨rfl, rfl, rfl, ⟨rfl, rfl, rfl, rfl, rfl, rfl⟩, by omega, ⟨c286.1, by omega⟩, ?_, ?_⟩
          · exact gc
          · exact exi (Or.inl (by omega))
      · skip
        rw [lei, t3] at c98
        rw [lg_cmp_gt, jlti, tM] at c99
        have mm : x286_13.toInt.toNat * x71.toInt.toNat ≤ 2147483647 * 2147483647 := Nat.mul_le_mul (by omega) (by omega)
        have em : x286_13.toInt * x71.toInt = ((x286_13.toInt.toNat * x71.toInt.toNat : Nat) : Int) := by
          rw [Int.natCast_mul]
          congr 1 <;> omega
        have e1 : (x286_13 * x71).toInt = ((x286_13.toInt.toNat * x71.toInt.toNat : Nat) : Int) := by rw [jmul_i (by rw [em]; omega) (by rw [em]; omega), em]
        have ov := j_top (a := x286_15) (y := zA κ231 x72 (x231_10.toNatClampNeg + (nuK κ a2 - 2))) c286.2 (by omega) wm2
        refine ⟨?_, ?_⟩
        · rw [nx, inb_iff, ec]; omega  -- b42
        refine ⟨fun c100 => ?_, fun c100 => ?_⟩
        · skip
          refine hj345 _ _ _ _ _ _ _ _ _ _ W286 ?_ ?_ ?_ ?_
          · exact T286_0  -- t43
          · exact T286_1  -- t44
          · exact T286_2  -- t45
          · rw [nc, lg_cmp_le, jlei, e1, ov] at c100
            refine ⟨rfl, rfl, rfl, ⟨rfl, rfl, rfl, rfl, rfl, rfl⟩, by omega, ⟨c286.1, by omega⟩, ?_, ?_⟩
            · exact gc
            · exact exi (Or.inr (by omega))
        · skip
          intro x101 hx101
          intro x102 hx102
          intro x103 hx103
          skip
          refine ⟨_, ?_, rfl, ?_⟩
          · have e9 : x103.toInt = x286_17.toInt + 1 := by rw [hx103, add_i (by rw [t1i]; omega) (by rw [t1i]; omega), t1i]
            rw [hn286]; omega
          · rw [nc, lg_cmp_le, jlei, e1, ov] at c100
            have e9 : x103.toInt = x286_17.toInt + 1 := by rw [hx103, add_i (by rw [t1i]; omega) (by rw [t1i]; omega), t1i]
            have dn9 := kq_dn hR' hS rfl lR mg (by rw [eo]; omega)
            have lt9 : q9 < x286_13.toInt.toNat := by
              rw [← hq9, Nat.div_lt_iff_lt_mul S0]
              exact dn9
            have t1l : (1 : Int64).toInt = 1 := rfl
            have e8 : x101.toInt = x286_13.toInt - 1 := by rw [hx101, jsub_i (by rw [t1l]; omega) (by rw [t1l]; omega), t1l]
            have e7 : x102.toInt = x286_15.toInt + x70.toInt := by rw [hx102, jadd_i (by omega) (by omega)]
            refine ⟨rfl, rfl, rfl, ⟨rfl, rfl, rfl, rfl, rfl, rfl⟩, by omega, by omega, ?_⟩
            rw [hq9]
            have e6 : x286_13.toInt.toNat = x101.toInt.toNat + 1 := by omega
            have e5 : x102.toInt.toNat = x286_15.toInt.toNat + x70.toInt.toNat := by omega
            rw [e6, Nat.succ_mul] at gb
            exact ⟨by omega, by rw [e5]; omega, by omega, by omega⟩
