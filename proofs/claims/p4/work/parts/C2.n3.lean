set_option maxHeartbeats 1600000
/-! the class: Num's rest, over, product -/
theorem jdiv_i {x y : Int64} (h0 : 0 ≤ x.toInt) (hy : 0 < y.toInt) : (x / y).toInt = x.toInt / y.toInt := by
  have a1 : x.toInt / y.toInt ≤ x.toInt := Int.ediv_le_self _ h0
  have a2 : 0 ≤ x.toInt / y.toInt := Int.ediv_nonneg h0 (by omega)
  have a3 := Int64.toInt_lt x
  rw [Int64.toInt_div, Int.tdiv_eq_ediv_of_nonneg h0]
  exact Int.bmod_eq_of_le (by omega) (by omega)
theorem jmod_i {x y : Int64} (h0 : 0 ≤ x.toInt) (hy : 0 < y.toInt) : (x - x / y * y).toInt = x.toInt % y.toInt := by
  have d := jdiv_i h0 hy
  have m : x.toInt / y.toInt * y.toInt ≤ x.toInt := Int.ediv_mul_le _ (by omega)
  have p : 0 ≤ x.toInt / y.toInt * y.toInt := Int.mul_nonneg (Int.ediv_nonneg h0 (by omega)) (by omega)
  have l := Int64.toInt_lt x
  have e : (x / y * y).toInt = x.toInt / y.toInt * y.toInt := by rw [jmul_i (by rw [d]; omega) (by rw [d]; omega), d]
  rw [jsub_i (by rw [e]; omega) (by rw [e]; omega), e, Int.emod_def, Int.mul_comm]
theorem hn_s {L : Nat → Int32} {i h : Nat} : uV L (i + 1) + h * 2147483648 ^ (i + 1) = uV L i + ((L i).toNatClampNeg + h * 2147483648) * 2147483648 ^ i := by
  show uV L i + (L i).toNatClampNeg * 2147483648 ^ i + _ = _
  rw [p31_s, Nat.add_mul, Nat.mul_assoc]
  omega
theorem hn_m {h b l : Nat} : (h % b * 2147483648 + l) % b = (l + h * 2147483648) % b := by
  rw [Nat.add_mod, Nat.mul_mod, Nat.mod_mod, ← Nat.mul_mod, ← Nat.add_mod, Nat.add_comm]
theorem hn_d {h b l : Nat} (hb : 0 < b) : (l + h * 2147483648) / b = h / b * 2147483648 + (h % b * 2147483648 + l) / b := by
  have m := Nat.div_add_mod h b
  have e : l + h * 2147483648 = (h % b * 2147483648 + l) + b * (h / b * 2147483648) := by
    have e2 : h * 2147483648 = (b * (h / b) + h % b) * 2147483648 := by rw [m]
    rw [Nat.add_mul, Nat.mul_assoc] at e2
    omega
  rw [e, Nat.add_mul_div_left _ _ hb, Nat.add_comm]
theorem hn_b {r b l : Nat} (hr : r < b) (hl : l < 2147483648) : (r * 2147483648 + l) / b < 2147483648 := by
  rw [Nat.div_lt_iff_lt_mul (by omega)]
  have := Nat.mul_le_mul_right 2147483648 hr
  omega
theorem uV_u {f : Nat → Int32} {i : Nat} {v : Int32} : ∀ {n : Nat}, i < n → uV (upd f i v) n + (f i).toNatClampNeg * 2147483648 ^ i = uV f n + v.toNatClampNeg * 2147483648 ^ i
  | 0, h => absurd h (Nat.not_lt_zero _)
  | n + 1, h => by
    show uV (upd f i v) n + (upd f i v n).toNatClampNeg * 2147483648 ^ n + _ = uV f n + (f n).toNatClampNeg * 2147483648 ^ n + _
    by_cases z : i = n
    · have e : upd f i v n = v := if_pos z.symm
      have e2 : uV (upd f i v) n = uV f n := uV_e (fun j hj => if_neg (by omega))
      rw [e, e2, z]
      omega
    · have e : upd f i v n = f n := if_neg (fun y => z y.symm)
      have := uV_u (f := f) (v := v) (n := n) (show i < n by omega)
      rw [e]
      omega
/-- a rest, from the top -/
def hrI (L : Nat → Int32) (K b i left : Nat) : Prop := i ≤ K ∧ ∃ h, uV L K = uV L i + h * 2147483648 ^ i ∧ left = h % b
theorem hrI_0 {L : Nat → Int32} {K b : Nat} : hrI L K b K 0 := ⟨Nat.le_refl _, 0, by omega, (Nat.zero_mod _).symm⟩
theorem hrI_s {L : Nat → Int32} {K b i left : Nat} (h : hrI L K b (i + 1) left) : hrI L K b i ((left * 2147483648 + (L i).toNatClampNeg) % b) := by
  obtain ⟨h1, q, h2, h3⟩ := h
  refine ⟨by omega, (L i).toNatClampNeg + q * 2147483648, by rw [h2, hn_s], ?_⟩
  rw [h3, hn_m]
/-- a quotient in place, from the top -/
def hnI (L X : Nat → Int32) (K b i left : Nat) : Prop := i ≤ K ∧ ∃ h, uV L K = uV L i + h * 2147483648 ^ i ∧ left = h % b ∧ uV X K = uV L i + h / b * 2147483648 ^ i ∧ (∀ j, j < K → 0 ≤ (X j).toInt) ∧ ∀ j, j < i → X j = L j
theorem hnI_0 {L : Nat → Int32} {K b : Nat} (h : ∀ j, j < K → 0 ≤ (L j).toInt) : hnI L L K b K 0 := ⟨Nat.le_refl _, 0, by omega, (Nat.zero_mod _).symm, by rw [Nat.zero_div]; omega, h, fun _ _ => rfl⟩
theorem hnI_s {L X X' : Nat → Int32} {K b i left : Nat} {x : Int32} (h : hnI L X K b (i + 1) left) (hb : 0 < b) (ex : x.toNatClampNeg = (left * 2147483648 + (L i).toNatClampNeg) / b) (hx : 0 ≤ x.toInt) (e : X' = upd X i x) : hnI L X' K b i ((left * 2147483648 + (L i).toNatClampNeg) % b) := by
  obtain ⟨h1, q, h2, h3, h4, h5, h6⟩ := h
  refine ⟨by omega, (L i).toNatClampNeg + q * 2147483648, by rw [h2, hn_s], by rw [h3, hn_m], ?_, fun j hj => ?_, fun j hj => ?_⟩
  · have u := uV_u (f := X) (v := x) (n := K) (show i < K by omega)
    rw [← e, h4, h6 i (Nat.lt_succ_self i), ex, h3, hn_s] at u
    rw [hn_d hb, Nat.add_mul]
    rw [Nat.add_mul] at u
    omega
  · rw [e]
    by_cases z : j = i
    · have q9 : upd X i x j = x := if_pos z
      rw [q9]; exact hx
    · have q9 : upd X i x j = X j := if_neg z
      rw [q9]; exact h5 j hj
  · rw [e]
    exact (if_neg (by omega)).trans (h6 j (by omega))
theorem hnI_e {L X : Nat → Int32} {K b left : Nat} (h : hnI L X K b 0 left) : uV X K = uV L K / b ∧ left = uV L K % b := by
  obtain ⟨h1, q, h2, h3, h4, h5, h6⟩ := h
  have e : uV L K = q := by rw [h2]; show 0 + q * 1 = q; omega
  rw [e, h4]
  exact ⟨by show 0 + q / b * 1 = _; omega, h3⟩
theorem Nu_rest_c {C : zC} {n0 : Nat} {a0 : Nat} {a1 : Int32} {κ : zS} {Q : Int32 → zS → Prop} (W : zW C n0 κ) (Ta0 : zT κ a0 = 8) (c9 : Nat) (hp : nuI κ a0 c9 ∧ 0 < a1.toInt) (h : ∀ (v : Int32), (v.toInt = ((nuN κ a0 % a1.toInt.toNat : Nat) : Int)) → Q v κ) : zRun C 0 mNu_rest [.ref a0, .int a1] κ (oI Q noX) := by
  refine Nu_rest_run W Ta0 ?_
  replace W := W.lo (Nat.le_trans W.1.2.1 W.1.2.2) (Nat.le_refl (zn κ))
  unfold w_Nu_rest_0
  obtain ⟨I0, p1⟩ := hp
  have k0 := nuK_i I0.1
  have lb := I0.1.1
  have ha := ihi a1
  have hl := ihi (zI κ nuLength a0)
  intro x1 hx1
  unfold w_Nu_rest_10
  refine ⟨fun n l0 l1 l2 l4 τ => n = (l4.toInt + 1).toNat ∧ (κ = τ ∧ a0 = l0 ∧ a1 = l1 ∧ (-1 ≤ l4.toInt ∧ l4.toInt < (zI κ nuLength a0).toInt) ∧ 0 ≤ l2.toInt ∧ hrI (zA κ (zR κ nuLimbs a0)) (nuK κ a0) a1.toInt.toNat (l4.toInt + 1).toNat l2.toInt.toNat), ⟨_, rfl, ?_⟩, ?_⟩
  · have e : x1.toInt = (zI κ nuLength a0).toInt - 1 := by rw [hx1, sub_i (by rw [t1i]; omega) (by rw [t1i]; omega), t1i]
    refine ⟨rfl, rfl, rfl, by omega, by decide, ?_⟩
    have e2 : (x1.toInt + 1).toNat = nuK κ a0 := by omega
    rw [e2]
    exact hrI_0
  rintro n10 _ _ x10_2 x10_4 _ W10 T10_0 ⟨hn10, rfl, rfl, rfl, i10⟩
  obtain ⟨k10, c10, J10⟩ := i10
  refine ⟨fun c2 => ?_, fun c2 => ?_⟩
  · skip
    refine h _ ?_
    · rw [lti, t0i] at c2
      have e2 : (x10_4.toInt + 1).toNat = 0 := by omega
      rw [e2] at J10
      obtain ⟨_, h9, g1, g2⟩ := J10
      have e : nuN κ a0 = h9 := by
        refine Eq.trans g1 ?_
        show 0 + h9 * 1 = h9
        omega
      have lm := Nat.mod_lt h9 (y := a1.toInt.toNat) (by omega)
      rw [j_i32 c10 (by omega), e]
      omega
  · skip
    refine ⟨fun c3 => ?_, fun c3 => ?_⟩
    · skip
      refine h _ ?_
      · rw [lei, t0i] at c3
        exact absurd p1 (by omega)
    · skip
      rw [lti, t0i] at c2
      have kx := cnk (x := x10_4) (by omega)
      have lj := I0.1.2.2 x10_4.toNatClampNeg (by omega)
      have hj := ihi (zA κ (zR κ nuLimbs a0) x10_4.toNatClampNeg)
      have kj := cnk lj
      have e64 : a1.toInt64.toInt = a1.toInt := Int32.toInt_toInt64 _
      have e2 : (x10_4.toInt + 1).toNat = x10_4.toNatClampNeg + 1 := by omega
      rw [e2] at J10
      obtain ⟨g0, h9, g1, g2⟩ := id J10
      have lm := Nat.mod_lt h9 (y := a1.toInt.toNat) (by omega)
      have tt := j_top (a := x10_2) (y := zA κ (zR κ nuLimbs a0) x10_4.toNatClampNeg) c10 (by omega) lj
      refine ⟨?_, ?_⟩
      · rw [inb_iff]; omega  -- b4
      refine ⟨?_, ?_⟩
      · intro y
        have := congrArg Int64.toInt y
        rw [e64] at this
        exact absurd this (by show a1.toInt ≠ 0; omega)
      intro x4 hx4
      intro x5 hx5
      refine ⟨_, ?_, rfl, ?_⟩
      · have e : x5.toInt = x10_4.toInt - 1 := by rw [hx5, add_i (by rw [tmi]; omega) (by rw [tmi]; omega), tmi]; omega
        rw [hn10]; omega
      · have e : x5.toInt = x10_4.toInt - 1 := by rw [hx5, add_i (by rw [tmi]; omega) (by rw [tmi]; omega), tmi]; omega
        have s := hrI_s J10
        have m := jmod_i (x := (x10_2 <<< ((31 : Int32).toInt64 &&& 63)) ||| (zA κ (zR κ nuLimbs a0) x10_4.toNatClampNeg).toInt64) (y := a1.toInt64) (by rw [tt]; omega) (by rw [e64]; exact p1)
        rw [← hx4, tt, e64] at m
        have e3 : x10_2.toInt * 2147483648 + (zA κ (zR κ nuLimbs a0) x10_4.toNatClampNeg).toInt = ((x10_2.toInt.toNat * 2147483648 + (zA κ (zR κ nuLimbs a0) x10_4.toNatClampNeg).toNatClampNeg : Nat) : Int) := by omega
        have e4 : a1.toInt = (a1.toInt.toNat : Int) := by omega
        rw [e3, e4, ← Int.natCast_emod] at m
        have e5 : x4.toInt.toNat = (x10_2.toInt.toNat * 2147483648 + (zA κ (zR κ nuLimbs a0) x10_4.toNatClampNeg).toNatClampNeg) % a1.toInt.toNat := by omega
        rw [← e5] at s
        have e6 : (x5.toInt + 1).toNat = x10_4.toNatClampNeg := by omega
        exact ⟨rfl, rfl, rfl, by omega, by omega, by rw [e6]; exact s⟩

theorem Nu_over_c {C : zC} {n0 : Nat} {a0 : Nat} {a1 : Int32} {κ : zS} {Q : Int32 → zS → Prop} (W : zW C n0 κ) (Ta0 : zT κ a0 = 8) (c9 : Nat) (hp : nuI κ a0 c9 ∧ 0 < a1.toInt) (h : ∀ (v : Int32) (κ' : zS), (zF (nuF a0) κ κ' ∧ nuI κ' a0 c9 ∧ nuN κ' a0 = nuN κ a0 / a1.toInt.toNat ∧ v.toInt = ((nuN κ a0 % a1.toInt.toNat : Nat) : Int)) → Q v κ') : zRun C 0 mNu_over [.ref a0, .int a1] κ (oI Q noX) := by
  refine Nu_over_run W Ta0 ?_
  replace W := W.lo (Nat.le_trans W.1.2.1 W.1.2.2) (Nat.le_refl (zn κ))
  unfold w_Nu_over_0
  obtain ⟨I0, p1⟩ := hp
  have k0 := nuK_i I0.1
  have lb := I0.1.1
  have lr := I0.1.2.1
  have ha := ihi a1
  have hl := ihi (zI κ nuLength a0)
  have res : ∀ (x : Int64), 0 ≤ x.toInt → x.toInt.toNat = nuN κ a0 % a1.toInt.toNat → (x.toInt32).toInt = ((nuN κ a0 % a1.toInt.toNat : Nat) : Int) := fun x h1 h2 => by
    have lm := Nat.mod_lt (nuN κ a0) (y := a1.toInt.toNat) (by omega)
    rw [j_i32 h1 (by omega)]
    omega
  have hh59 : ∀ (l0 : Nat) (l2 : Int64) (τ : zS), zW C (zn κ) τ → zT τ l0 = 8 → (a0 = l0 ∧ ∃ ρ, (nuE κ ρ a0 ∧ nuB ρ a0 c9 ∧ nuN ρ a0 = nuN κ a0 / a1.toInt.toNat) ∧ nuR ρ τ a0 ∧ 0 ≤ l2.toInt ∧ l2.toInt.toNat = nuN κ a0 % a1.toInt.toNat) → w_Nu_over_59 C (zn κ) Q  l0 l2 τ := by
    intro z0 z2 τi Wi _ hinit
    unfold w_Nu_over_59
    refine ⟨fun n l0 l2 τ => n = ((zI τ nuLength a0).toInt).toNat ∧ (a0 = l0 ∧ ∃ ρ, (nuE κ ρ a0 ∧ nuB ρ a0 c9 ∧ nuN ρ a0 = nuN κ a0 / a1.toInt.toNat) ∧ nuR ρ τ a0 ∧ 0 ≤ l2.toInt ∧ l2.toInt.toNat = nuN κ a0 % a1.toInt.toNat), ⟨_, rfl, hinit⟩, ?_⟩
    clear hinit
    rintro n59 _ x59_2 κ59 W59 T59_0 ⟨hn59, rfl, i59⟩
    obtain ⟨ρ, ⟨Eρ, Bρ, Vρ⟩, Rρ, l59, v59⟩ := i59
    have lρ := Bρ.1
    have l2ρ := Rρ.2.1
    refine ⟨fun c1 => ?_, fun c1 => ?_⟩
    · skip
      refine h _ _ ?_
      · rw [lei, t0i] at c1
        have q := nuR_e Rρ Bρ (Or.inl c1)
        exact ⟨Eρ.1.tr Rρ.1.1, q.1, by rw [q.2.1]; exact Vρ, res _ l59 v59⟩
    · skip
      rw [lei, t0i] at c1
      have d := dec_i (x := zI κ59 nuLength a0) (by omega)
      refine ⟨?_, ?_⟩
      · rw [Rρ.1.2.1, Rρ.1.2.2.2.1, inb_iff, d]; omega  -- b2
      refine ⟨fun c2 => ?_, fun c2 => ?_⟩
      · skip
        refine h _ _ ?_
        · have q := nuR_e Rρ Bρ (Or.inr c2)
          exact ⟨Eρ.1.tr Rρ.1.1, q.1, by rw [q.2.1]; exact Vρ, res _ l59 v59⟩
      · skip
        intro κ_3 hκ_3
        intro W4
        refine ⟨_, ?_, rfl, ?_⟩
        · have s := nuR_s Rρ (by omega) c2 hκ_3
          rw [hn59]; omega
        · exact ⟨rfl, ρ, ⟨Eρ, Bρ, Vρ⟩, (nuR_s Rρ (by omega) c2 hκ_3).1, l59, v59⟩  -- i5
  intro x5 hx5
  unfold w_Nu_over_10
  refine ⟨fun n l0 l1 l2 l4 τ => n = (l4.toInt + 1).toNat ∧ (a0 = l0 ∧ a1 = l1 ∧ nuE κ τ a0 ∧ (-1 ≤ l4.toInt ∧ l4.toInt < (zI κ nuLength a0).toInt) ∧ 0 ≤ l2.toInt ∧ hnI (zA κ (zR κ nuLimbs a0)) (zA τ (zR κ nuLimbs a0)) (nuK κ a0) a1.toInt.toNat (l4.toInt + 1).toNat l2.toInt.toNat), ⟨_, rfl, ?_⟩, ?_⟩
  · have e : x5.toInt = (zI κ nuLength a0).toInt - 1 := by rw [hx5, sub_i (by rw [t1i]; omega) (by rw [t1i]; omega), t1i]
    refine ⟨rfl, rfl, nuE.rf, by omega, by decide, ?_⟩
    have e2 : (x5.toInt + 1).toNat = nuK κ a0 := by omega
    rw [e2]
    exact hnI_0 (fun j hj => I0.1.2.2 j (by omega))
  rintro n10 _ _ x10_2 x10_4 κ10 W10 T10_0 ⟨hn10, rfl, rfl, i10⟩
  obtain ⟨E10, k10, c10, J10⟩ := i10
  have rs := E10.2.1
  have is := E10.2.2.1
  have ns := E10.2.2.2
  refine ⟨fun c6 => ?_, fun c6 => ?_⟩
  · skip
    refine hh59 _ _ _ W10 (by assumption) ?_
    · rw [lti, t0i] at c6
      have e2 : (x10_4.toInt + 1).toNat = 0 := by omega
      rw [e2] at J10
      have fin := hnI_e J10
      obtain ⟨_, _, _, _, _, g5, _⟩ := J10
      have V : nuN κ10 a0 = uV (zA κ10 (zR κ nuLimbs a0)) (nuK κ a0) := by
        unfold nuN nuK
        rw [is, rs]
      have B : nuB κ10 a0 c9 := by
        refine ⟨?_, ?_, fun i hi => ?_⟩
        · rw [rs, ns, is]; exact lb
        · rw [rs, ns]; exact lr
        · rw [is] at hi
          rw [rs]
          exact g5 i (by omega)
      exact ⟨rfl, κ10, ⟨E10, B, V.trans fin.1⟩, ⟨nuT.rf, ⟨B.1.1, Int.le_refl _⟩, rfl⟩, c10, fin.2⟩
  · skip
    refine ⟨fun c7 => ?_, fun c7 => ?_⟩
    · skip
      refine hh59 _ _ _ W10 (by assumption) ?_
      · rw [lei, t0i] at c7
        exact absurd p1 (by omega)
    · skip
      rw [lti, t0i] at c6
      have kx := cnk (x := x10_4) (by omega)
      have e2 : (x10_4.toInt + 1).toNat = x10_4.toNatClampNeg + 1 := by omega
      rw [e2] at J10
      obtain ⟨g0, h9, g1, g2, g3, g4, g5⟩ := id J10
      have lx := g5 x10_4.toNatClampNeg (Nat.lt_succ_self _)
      have lj := I0.1.2.2 x10_4.toNatClampNeg (by omega)
      have hj := ihi (zA κ (zR κ nuLimbs a0) x10_4.toNatClampNeg)
      have kj := cnk lj
      have e64 : a1.toInt64.toInt = a1.toInt := Int32.toInt_toInt64 _
      have lm := Nat.mod_lt h9 (y := a1.toInt.toNat) (by omega)
      have tt := j_top (a := x10_2) (y := zA κ (zR κ nuLimbs a0) x10_4.toNatClampNeg) c10 (by omega) lj
      have nz : ¬ a1.toInt64 = 0 := fun y => by
        have := congrArg Int64.toInt y
        rw [e64] at this
        exact absurd this (by show a1.toInt ≠ 0; omega)
      refine ⟨?_, ?_⟩
      · rw [rs, ns, inb_iff]; omega  -- b9
      intro x8 hx8
      refine ⟨?_, ?_⟩
      · exact nz  -- b10
      refine ⟨?_, ?_⟩
      · rw [rs, ns, inb_iff]; omega  -- b11
      intro κ_9 hκ_9
      intro W10
      refine ⟨?_, ?_⟩
      · exact nz  -- b12
      intro x11 hx11
      intro x12 hx12
      skip
      refine ⟨_, ?_, rfl, ?_⟩
      · have e : x12.toInt = x10_4.toInt - 1 := by rw [hx12, add_i (by rw [tmi]; omega) (by rw [tmi]; omega), tmi]; omega
        rw [hn10]; omega
      · have e : x12.toInt = x10_4.toInt - 1 := by rw [hx12, add_i (by rw [tmi]; omega) (by rw [tmi]; omega), tmi]; omega
        have W10' : zW C (zn κ) κ10 := by assumption
        obtain ⟨u1, u2, u3⟩ := nu_u W10' T10_0 hκ_9
        rw [rs] at u2
        rw [rs, lx] at hx8
        rw [← hx8] at tt
        have m := jmod_i (x := x8) (y := a1.toInt64) (by rw [tt]; omega) (by rw [e64]; exact p1)
        have dv9 := jdiv_i (x := x8) (y := a1.toInt64) (by rw [tt]; omega) (by rw [e64]; exact p1)
        have e3 : x10_2.toInt * 2147483648 + (zA κ (zR κ nuLimbs a0) x10_4.toNatClampNeg).toInt = ((x10_2.toInt.toNat * 2147483648 + (zA κ (zR κ nuLimbs a0) x10_4.toNatClampNeg).toNatClampNeg : Nat) : Int) := by omega
        have e4 : a1.toInt = (a1.toInt.toNat : Int) := by omega
        rw [← hx11, tt, e64, e3, e4, ← Int.natCast_emod] at m
        rw [tt, e64, e3, e4, ← Int.natCast_ediv] at dv9
        have bd := hn_b (r := x10_2.toInt.toNat) (b := a1.toInt.toNat) (l := (zA κ (zR κ nuLimbs a0) x10_4.toNatClampNeg).toNatClampNeg) (by omega) (by omega)
        have nn : 0 ≤ (x8 / a1.toInt64).toInt := by rw [dv9]; exact Int.natCast_nonneg _
        have f9 := j_i32 (x := x8 / a1.toInt64) nn (by omega)
        have kf := cnk (x := (x8 / a1.toInt64).toInt32) (by rw [f9]; exact nn)
        have s := hnI_s (x := (x8 / a1.toInt64).toInt32) J10 (by omega) (by omega) (by omega) u2
        have e5 : x11.toInt.toNat = (x10_2.toInt.toNat * 2147483648 + (zA κ (zR κ nuLimbs a0) x10_4.toNatClampNeg).toNatClampNeg) % a1.toInt.toNat := by omega
        rw [← e5] at s
        have e6 : (x12.toInt + 1).toNat = x10_4.toNatClampNeg := by omega
        exact ⟨rfl, rfl, E10.tr u1, by omega, by omega, by rw [e6]; exact s⟩

/-- a row of a product -/
def prI (X Y M : Nat → Int32) (q i j c : Nat) : Prop := uV Y (i + j) + c * 2147483648 ^ (i + j) = uV X (i + j) + q * uV M j * 2147483648 ^ i ∧ c < 2147483648 ∧ (∀ k, k < i + j → 0 ≤ (Y k).toInt) ∧ ∀ k, i + j ≤ k → Y k = X k
theorem ar31r {p D S R c x y q v P : Nat} (h : D + c * p = S + q * R * P) (hv : v = q * y + x + c) (hp : ∃ r, p = r * P ∧ True) : D + v % 2147483648 * p + v / 2147483648 * (2147483648 * p) = S + x * p + (q * R * P + q * y * p) := by
  have m := Nat.div_add_mod v 2147483648
  have e : (2147483648 * (v / 2147483648) + v % 2147483648) * p = (q * y + x + c) * p := by rw [m, hv]
  rw [Nat.add_mul, Nat.add_mul, Nat.add_mul] at e
  have f : v / 2147483648 * (2147483648 * p) = 2147483648 * (v / 2147483648) * p := by
    rw [← Nat.mul_assoc, Nat.mul_comm (v / 2147483648) 2147483648]
  omega
theorem prI_s {X Y Y' M : Nat → Int32} {q i j c v : Nat} {x : Int32} (h : prI X Y M q i j c) (hq : q < 2147483648) (hv : v = q * (M j).toNatClampNeg + (X (i + j)).toNatClampNeg + c) (ex : x.toInt = (v : Int) % 2147483648) (e : Y' = upd Y (i + j) x) : prI X Y' M q i (j + 1) (v / 2147483648) := by
  obtain ⟨h1, h2, h3, h4⟩ := h
  have l1 := lim31 (M j)
  have l2 := lim31 (X (i + j))
  have mm : q * (M j).toNatClampNeg ≤ 2147483647 * 2147483647 := Nat.mul_le_mul (by omega) (by omega)
  have kx := cnk (x := x) (by omega)
  have mi : Y' (i + j) = x := by rw [e]; exact if_pos rfl
  have mj : ∀ k, k ≠ i + j → Y' k = Y k := fun k hk => by rw [e]; exact if_neg hk
  refine ⟨?_, by omega, fun k hk => ?_, fun k hk => ?_⟩
  · show uV Y' (i + j) + (Y' (i + j)).toNatClampNeg * 2147483648 ^ (i + j) + _ * 2147483648 ^ (i + j + 1) = uV X (i + j) + (X (i + j)).toNatClampNeg * 2147483648 ^ (i + j) + q * (uV M j + (M j).toNatClampNeg * 2147483648 ^ j) * 2147483648 ^ i
    rw [uV_e (g := Y) (fun k hk => mj k (Nat.ne_of_lt hk)), mi, p31_s]
    have e9 : x.toNatClampNeg = v % 2147483648 := by omega
    have e8 : q * (uV M j + (M j).toNatClampNeg * 2147483648 ^ j) * 2147483648 ^ i = q * uV M j * 2147483648 ^ i + q * (M j).toNatClampNeg * 2147483648 ^ (i + j) := by
      rw [Nat.mul_add, Nat.add_mul, Nat.pow_add, Nat.mul_comm (2147483648 ^ i) (2147483648 ^ j), ← Nat.mul_assoc, ← Nat.mul_assoc]
    rw [e9, e8]
    exact ar31r h1 hv ⟨2147483648 ^ j, by rw [Nat.pow_add, Nat.mul_comm], trivial⟩
  · by_cases z : k = i + j
    · rw [z, mi]; omega
    · rw [mj k z]; exact h3 k (by omega)
  · rw [mj k (by omega)]; exact h4 k (by omega)
theorem prI_e {X Y Y' L M : Nat → Int32} {q i j c : Nat} {x : Int32} (h : prI X Y M q i j c) (hX : uV X (i + j) = uV L i * uV M j) (hq : q = (L i).toNatClampNeg) (ex : x.toInt = c) (e : Y' = upd Y (i + j) x) : uV Y' (i + 1 + j) = uV L (i + 1) * uV M j := by
  obtain ⟨h1, h2, h3, h4⟩ := h
  have kx := cnk (x := x) (by omega)
  have e1 : i + 1 + j = i + j + 1 := by omega
  have ec : x.toNatClampNeg = c := by omega
  have mi : Y' (i + j) = x := by rw [e]; exact if_pos rfl
  have mj : ∀ k, k ≠ i + j → Y' k = Y k := fun k hk => by rw [e]; exact if_neg hk
  rw [e1]
  show uV Y' (i + j) + (Y' (i + j)).toNatClampNeg * 2147483648 ^ (i + j) = (uV L i + (L i).toNatClampNeg * 2147483648 ^ i) * uV M j
  rw [uV_e (g := Y) (fun k hk => mj k (Nat.ne_of_lt hk)), mi, ec, h1, hX, hq, Nat.add_mul, Nat.mul_right_comm]
theorem Nu_product_c {C : zC} {n0 : Nat} {a0 : Nat} {a1 : Nat} {a2 : Nat} {κ : zS} {Q : zS → Prop} (W : zW C n0 κ) (Ta0 : zT κ a0 = 8) (Ta1 : zT κ a1 = 8) (Ta2 : zT κ a2 = 8) (c9 d9 e9 : Nat) (hp : (2 ≤ (zN κ (zR κ nuLimbs a0)) ∧ (zN κ (zR κ nuLimbs a0)) ≤ c9) ∧ (nuI κ a1 d9 ∧ nuI κ a2 e9) ∧ (a0 ≠ a1 ∧ a0 ≠ a2) ∧ nuK κ a1 + nuK κ a2 + (nuK κ a1 + nuK κ a2) / 2 + 1 ≤ c9 ∧ c9 ≤ 30000000) (h : ∀ (κ' : zS), (zF (nuF a0) κ κ' ∧ nuI κ' a0 c9 ∧ nuN κ' a0 = nuN κ a1 * nuN κ a2) → Q κ') : zRun C 3 mNu_product [.ref a0, .ref a1, .ref a2] κ (oV Q noX) := by
  refine Nu_product_run W Ta0 Ta1 Ta2 ?_
  replace W := W.lo (Nat.le_trans W.1.2.1 W.1.2.2) (Nat.le_refl (zn κ))
  unfold w_Nu_product_0
  obtain ⟨lr, ⟨I1, I2⟩, ⟨ne1, ne2⟩, p1, p2⟩ := hp
  have k1 := nuK_i I1.1
  have k2 := nuK_i I2.1
  have kd1 : nuK κ a1 = (zI κ nuLength a1).toNatClampNeg := rfl
  have kd2 : nuK κ a2 = (zI κ nuLength a2).toNatClampNeg := rfl
  have lb1 := I1.1.1
  have lb2 := I2.1.1
  have nF1 : ∀ f, ¬ nuF a0 f a1 := fun f z => ne1 z.1.symm
  have nF2 : ∀ f, ¬ nuF a0 f a2 := fun f z => ne2 z.1.symm
  intro x1 hx1
  intro T2
  have ex : x1.toInt = ((nuK κ a1 + nuK κ a2 : Nat) : Int) := by
    rw [hx1, add_i (by omega) (by omega)]
    omega
  have kx1 := cnk (x := x1) (by omega)
  refine Nu_widen_c W T2  ?_ (fun κ_3 q4 => ?_)
  · exact ⟨by omega, lr.1⟩  -- p1
  obtain ⟨F3, I3, R3, L3, A3⟩ := q4
  have T3 : zT κ_3 a0 = 8 := F3.t Ta0 (by decide)
  have u3 := nu_z W Ta2 F3 (nF2 nuLimbs) (nF2 nuLength)
  intro W5
  intro M6
  intro x7 hx7
  intro x8 hx8
  intro T9
  refine Ar_fill4_c W5 T9  ?_ (fun κ_10 q11 => ?_)
  · exact ⟨by decide, by rw [lei, t0i]; omega, by rw [hx7]; omega⟩  -- p2
  have q12 : κ_10 = uff κ_3 x7 0 x1.toNatClampNeg 0 := q11
  have R8 : zR κ_10 = zR κ_3 := by rw [q12]; rfl
  have I8 : zI κ_10 = zI κ := by rw [q12]; exact I3
  have N8 : zN κ_10 = zN κ_3 := by rw [q12]; rfl
  have ow := W5.o (show zr nuLimbs = some 20 by decide +kernel) (by decide) T3
  rw [← hx7] at ow
  have Z8 : zF (nuF a0) κ κ_10 := F3.tr (by rw [q12]; exact zF_uf (by rw [ow]; exact ⟨rfl, Or.inl rfl⟩))
  have A8 : ∀ j, j < nuK κ a1 + nuK κ a2 → zA κ_10 x7 j = 0 := fun j hj => by
    rw [q12]
    refine (congrFun (if_pos rfl) j).trans ?_
    exact if_pos ⟨Nat.zero_le _, by omega⟩
  have ex8 : x8 = zR κ nuLimbs a2 := hx8.trans u3.2.1
  intro W12
  intro M13
  unfold w_Nu_product_38
  refine ⟨fun n l0 l1 l2 l3 l4 l5 l6 τ => n = ((zI κ nuLength a1).toInt - l6.toInt).toNat ∧ (a0 = l0 ∧ a1 = l1 ∧ a2 = l2 ∧ (x1 = l3 ∧ x7 = l4 ∧ x8 = l5) ∧ nuE κ_10 τ a0 ∧ (0 ≤ l6.toInt ∧ l6.toInt ≤ (zI κ nuLength a1).toInt) ∧ uV (zA τ x7) (l6.toNatClampNeg + nuK κ a2) = uV (zA κ (zR κ nuLimbs a1)) l6.toNatClampNeg * nuN κ a2 ∧ ∀ k : Nat, k < nuK κ a1 + nuK κ a2 → 0 ≤ (zA τ x7 k).toInt), ⟨_, rfl, ?_⟩, ?_⟩
  · refine ⟨rfl, rfl, rfl, ⟨rfl, rfl, rfl⟩, nuE.rf, ⟨by decide, by rw [t0i]; omega⟩, ?_, fun k hk => by rw [A8 k hk]; decide⟩
    show uV _ (0 + nuK κ a2) = 0 * _
    rw [uV_pad (k := 0) (Nat.zero_le _) (fun i _ hi => A8 i (by omega))]
    show 0 = _
    omega
  rintro n38 _ _ _ x38_3 x38_4 x38_5 x38_6 κ38 W38 T38_0 T38_1 T38_2 T38_3 T38_4 ⟨hn38, rfl, rfl, rfl, i38⟩
  obtain ⟨⟨rfl, rfl, rfl⟩, E38, k38, V38, P38⟩ := i38
  have rs : zR κ38 = zR κ_3 := E38.2.1.trans R8
  have is : zI κ38 = zI κ := E38.2.2.1.trans I8
  have ns : zN κ38 = zN κ_3 := E38.2.2.2.trans N8
  have Z38 := Z8.tr E38.1
  have u1 := nu_z W Ta1 Z38 (nF1 nuLimbs) (nF1 nuLength)
  have kn := cnk k38.1
  have fin : ∀ (σ : zS), zI κ38 nuLength a1 ≤ x38_6 → σ = ui κ38 nuLength a0 x1 → zF (nuF a0) κ σ ∧ nuB σ a0 c9 ∧ nuN σ a0 = nuN κ a1 * nuN κ a2 := fun σ c14 e => by
    rw [is, lei] at c14
    have kk : x38_6.toNatClampNeg = nuK κ a1 := by omega
    rw [kk] at V38
    have R : zR σ = zR κ_3 := by rw [e]; exact rs
    have N : zN σ = zN κ_3 := by rw [e]; exact ns
    have A : zA σ = zA κ38 := by rw [e]; rfl
    have I : zI σ nuLength a0 = x1 := by rw [e]; exact if_pos ⟨rfl, rfl⟩
    refine ⟨Z38.tr (by rw [e]; exact zF_ui ⟨rfl, Or.inr rfl⟩), ⟨?_, ?_, fun i hi => ?_⟩, ?_⟩
    · rw [R, N, I, ← hx7]
      rw [← hx7] at L3
      omega
    · rw [R, N]; omega
    · rw [I] at hi
      rw [R, A, ← hx7]
      exact P38 i (by omega)
    · have ek : x1.toNatClampNeg = nuK κ a1 + nuK κ a2 := by omega
      unfold nuN
      rw [I, R, A, ek, ← hx7]
      exact V38
  refine ⟨fun c14 => ?_, fun c14 => ?_⟩
  · skip
    intro κ_15 hκ_15
    intro W16
    intro T17
    refine Nu_trim_c W16 T17 c9 ?_ (fun κ_18 q19 => ?_)
    · exact (fin _ c14 hκ_15).2.1  -- p4
    intro W20
    intro M21
    refine h _ ?_
    · have f := fin _ c14 hκ_15
      exact ⟨f.1.tr q19.1.1, q19.2.1, by rw [q19.2.2.1]; exact f.2.2⟩
  · skip
    rw [is, lei] at c14
    refine ⟨?_, ?_⟩
    · rw [u1.2.1, u1.2.2.2, inb_iff]; omega  -- b6
    intro x22 hx22
    unfold w_Nu_product_63
    refine ⟨fun n l0 l1 l2 l3 l4 l5 l6 l7 l9 l11 τ => n = ((zI κ nuLength a2).toInt - l11.toInt).toNat ∧ (a0 = l0 ∧ a1 = l1 ∧ a2 = l2 ∧ (x1 = l3 ∧ x7 = l4 ∧ x8 = l5 ∧ x38_6 = l6 ∧ x22 = l7) ∧ nuE κ_10 τ a0 ∧ (0 ≤ l11.toInt ∧ l11.toInt ≤ (zI κ nuLength a2).toInt) ∧ 0 ≤ l9.toInt ∧ prI (zA κ38 x7) (zA τ x7) (zA κ (zR κ nuLimbs a2)) (zA κ (zR κ nuLimbs a1) x38_6.toNatClampNeg).toNatClampNeg x38_6.toNatClampNeg l11.toNatClampNeg l9.toInt.toNat), ⟨_, rfl, ?_⟩, ?_⟩
    · refine ⟨rfl, rfl, rfl, ⟨rfl, rfl, rfl, rfl, rfl⟩, E38, ⟨by decide, by rw [t0i]; omega⟩, by decide, ?_, by decide, fun k hk => P38 k (by
        have hk' : k < x38_6.toNatClampNeg + 0 := hk
        omega), fun _ _ => rfl⟩
      show _ + 0 * _ = _ + _ * 0 * _
      rw [Nat.mul_zero, Nat.zero_mul]
      rw [Nat.zero_mul]
    rintro n63 _ _ _ x63_3 x63_4 x63_5 x63_6 x63_7 x63_9 x63_11 κ63 W63 T63_0 T63_1 T63_2 T63_3 T63_4 ⟨hn63, rfl, rfl, rfl, i63⟩
    obtain ⟨⟨rfl, rfl, rfl, rfl, rfl⟩, E63, k63, c63, J63⟩ := i63
    have rs6 : zR κ63 = zR κ_3 := E63.2.1.trans R8
    have is6 : zI κ63 = zI κ := E63.2.2.1.trans I8
    have ns6 : zN κ63 = zN κ_3 := E63.2.2.2.trans N8
    have Z63 := Z8.tr E63.1
    have u2 := nu_z W Ta2 Z63 (nF2 nuLimbs) (nF2 nuLength)
    have kn6 := cnk k63.1
    have ew : x7 = zR κ63 nuLimbs a0 := hx7.trans (by rw [rs6])
    have rw7 : zN κ63 x7 = zN κ_3 (zR κ_3 nuLimbs a0) := by rw [ns6, hx7]
    have bq := J63.2.1
    refine ⟨fun c23 => ?_, fun c23 => ?_⟩
    · skip
      refine ⟨?_, ?_⟩
      · rw [is6, rw7, inb_iff, add_i (by omega) (by omega)]
        rw [is6, lei] at c23
        omega
      intro κ_24 hκ_24
      intro W25
      intro x26 hx26
      rw [is6, lei] at c23
      have kk : x63_11.toNatClampNeg = nuK κ a2 := by omega
      rw [kk] at J63
      have e5 := cn1 (x := x38_6) k38.1 (by omega)
      refine ⟨_, ?_, rfl, ?_⟩
      · rw [hn38, hx26, e5.2]; omega  -- d9
      · have ea : (x38_6 + zI κ nuLength a2).toInt = x38_6.toInt + (zI κ nuLength a2).toInt := add_i (by omega) (by omega)
        have ka := cnk (x := x38_6 + zI κ nuLength a2) (by omega)
        rw [is6, ew] at hκ_24
        obtain ⟨v1, v2, v3⟩ := nu_u W63 T63_0 hκ_24
        rw [← ew] at v2
        have en : (x38_6 + zI κ nuLength a2).toNatClampNeg = x38_6.toNatClampNeg + nuK κ a2 := by omega
        rw [en] at v2
        have ei := j_i32 (x := x63_9) c63 (by omega)
        have fin9 := prI_e (L := zA κ (zR κ nuLimbs a1)) J63 V38 rfl (by omega) v2
        refine ⟨rfl, rfl, rfl, ⟨rfl, rfl, rfl⟩, E63.tr v1, by rw [hx26, e5.2]; omega, ?_, fun k hk => ?_⟩
        · rw [hx26, e5.1]; exact fin9
        · rw [v2]
          by_cases z : k = x38_6.toNatClampNeg + nuK κ a2
          · have : upd (zA κ63 x7) (x38_6.toNatClampNeg + nuK κ a2) x63_9.toInt32 k = x63_9.toInt32 := if_pos z
            rw [this]; omega
          · have : upd (zA κ63 x7) (x38_6.toNatClampNeg + nuK κ a2) x63_9.toInt32 k = zA κ63 x7 k := if_neg z
            rw [this]
            by_cases z2 : k < x38_6.toNatClampNeg + nuK κ a2
            · exact J63.2.2.1 k z2
            · rw [J63.2.2.2 k (by omega)]; exact P38 k hk
    · skip
      rw [is6, lei] at c23
      have g1 := I1.1.2.2 x38_6.toNatClampNeg (by omega)
      have g2 := I2.1.2.2 x63_11.toNatClampNeg (by omega)
      have h1 := ihi (zA κ (zR κ nuLimbs a1) x38_6.toNatClampNeg)
      have h2 := ihi (zA κ (zR κ nuLimbs a2) x63_11.toNatClampNeg)
      have kg1 := cnk g1
      have kg2 := cnk g2
      have ea : (x38_6 + x63_11).toInt = x38_6.toInt + x63_11.toInt := add_i (by omega) (by omega)
      have ka := cnk (x := x38_6 + x63_11) (by omega)
      have en : (x38_6 + x63_11).toNatClampNeg = x38_6.toNatClampNeg + x63_11.toNatClampNeg := by omega
      have gx := P38 (x38_6.toNatClampNeg + x63_11.toNatClampNeg) (by omega)
      have jx := J63.2.2.2 (x38_6.toNatClampNeg + x63_11.toNatClampNeg) (Nat.le_refl _)
      have h3 := ihi (zA κ38 x7 (x38_6.toNatClampNeg + x63_11.toNatClampNeg))
      have kg3 := cnk gx
      have m1 : (zA κ (zR κ nuLimbs a1) x38_6.toNatClampNeg).toNatClampNeg * (zA κ (zR κ nuLimbs a2) x63_11.toNatClampNeg).toNatClampNeg ≤ 2147483647 * 2147483647 := Nat.mul_le_mul (by omega) (by omega)
      refine ⟨?_, ?_⟩
      · rw [ex8, u2.2.2.2, inb_iff]; omega  -- b11
      refine ⟨?_, ?_⟩
      · rw [rw7, inb_iff, ea]; omega  -- b12
      intro x27 hx27
      have hx27' := hx27
      rw [hx22, u1.2.1, u1.2.2.1, ex8, u2.2.2.1, en, jx] at hx27'
      have b1 : (zA κ (zR κ nuLimbs a1) x38_6.toNatClampNeg).toInt64.toInt = (zA κ (zR κ nuLimbs a1) x38_6.toNatClampNeg).toInt := Int32.toInt_toInt64 _
      have b2 : (zA κ (zR κ nuLimbs a2) x63_11.toNatClampNeg).toInt64.toInt = (zA κ (zR κ nuLimbs a2) x63_11.toNatClampNeg).toInt := Int32.toInt_toInt64 _
      have b3 : (zA κ38 x7 (x38_6.toNatClampNeg + x63_11.toNatClampNeg)).toInt64.toInt = (zA κ38 x7 (x38_6.toNatClampNeg + x63_11.toNatClampNeg)).toInt := Int32.toInt_toInt64 _
      have em : (zA κ (zR κ nuLimbs a1) x38_6.toNatClampNeg).toInt * (zA κ (zR κ nuLimbs a2) x63_11.toNatClampNeg).toInt = (((zA κ (zR κ nuLimbs a1) x38_6.toNatClampNeg).toNatClampNeg * (zA κ (zR κ nuLimbs a2) x63_11.toNatClampNeg).toNatClampNeg : Nat) : Int) := by
        rw [Int.natCast_mul, kg1, kg2]
      have t1 : ((zA κ (zR κ nuLimbs a1) x38_6.toNatClampNeg).toInt64 * (zA κ (zR κ nuLimbs a2) x63_11.toNatClampNeg).toInt64).toInt = (((zA κ (zR κ nuLimbs a1) x38_6.toNatClampNeg).toNatClampNeg * (zA κ (zR κ nuLimbs a2) x63_11.toNatClampNeg).toNatClampNeg : Nat) : Int) := by
        rw [jmul_i (by rw [b1, b2, em]; omega) (by rw [b1, b2, em]; omega), b1, b2, em]
      have t2 : ((zA κ (zR κ nuLimbs a1) x38_6.toNatClampNeg).toInt64 * (zA κ (zR κ nuLimbs a2) x63_11.toNatClampNeg).toInt64 + (zA κ38 x7 (x38_6.toNatClampNeg + x63_11.toNatClampNeg)).toInt64).toInt = (((zA κ (zR κ nuLimbs a1) x38_6.toNatClampNeg).toNatClampNeg * (zA κ (zR κ nuLimbs a2) x63_11.toNatClampNeg).toNatClampNeg : Nat) : Int) + (zA κ38 x7 (x38_6.toNatClampNeg + x63_11.toNatClampNeg)).toInt := by
        rw [jadd_i (by rw [t1, b3]; omega) (by rw [t1, b3]; omega), t1, b3]
      have t3 : x27.toInt = (((zA κ (zR κ nuLimbs a1) x38_6.toNatClampNeg).toNatClampNeg * (zA κ (zR κ nuLimbs a2) x63_11.toNatClampNeg).toNatClampNeg + (zA κ38 x7 (x38_6.toNatClampNeg + x63_11.toNatClampNeg)).toNatClampNeg + x63_9.toInt.toNat : Nat) : Int) := by
        rw [hx27', jadd_i (by rw [t2]; omega) (by rw [t2]; omega), t2]
        omega
      have f1 := (j_and (x := x27)).2
      have f2 := j_shr (x := x27) (by omega)
      have e5 := cn1 (x := x63_11) k63.1 (by omega)
      refine ⟨?_, ?_⟩
      · rw [rw7, inb_iff, ea]; omega  -- b13
      intro κ_28 hκ_28
      intro W29
      intro x30 hx30
      intro x31 hx31
      refine ⟨_, ?_, rfl, ?_⟩
      · rw [hn63, hx31, e5.2]; omega  -- d14
      · rw [← hx30] at f2
        rw [ew] at hκ_28
        obtain ⟨v1, v2, v3⟩ := nu_u W63 T63_0 hκ_28
        rw [← ew, en] at v2
        have s := prI_s (x := (x27 &&& 2147483647).toInt32) J63 (by omega) rfl (by rw [f1, t3]) v2
        have ec : x30.toInt.toNat = ((zA κ (zR κ nuLimbs a1) x38_6.toNatClampNeg).toNatClampNeg * (zA κ (zR κ nuLimbs a2) x63_11.toNatClampNeg).toNatClampNeg + (zA κ38 x7 (x38_6.toNatClampNeg + x63_11.toNatClampNeg)).toNatClampNeg + x63_9.toInt.toNat) / 2147483648 := by omega
        rw [← ec] at s
        exact ⟨rfl, rfl, rfl, ⟨rfl, rfl, rfl, rfl, rfl⟩, E63.tr v1, by rw [hx31, e5.2]; omega, by omega, by rw [hx31, e5.1]; exact s⟩
