set_option maxHeartbeats 1600000
/-! the class: Calc's common, its contract -/
theorem cm_p {κ τ : zS} {a c m A B n : Nat} (h : cmI κ τ a c m A B n) (hc : m + 1 + (m + 1) / 2 + 2 ≤ c) (hl : c ≤ 30000000) : ((nuC τ (zR τ caQuotient a) c ∧ nuC τ (zR τ caRest a) c ∧ nuC τ (zR τ caDivisor a) c) ∧ (nuI τ (zR τ caX a) 30000000 ∧ nuI τ (zR τ caY a) 30000000) ∧ (zR τ caQuotient a ≠ zR τ caRest a ∧ zR τ caQuotient a ≠ zR τ caDivisor a ∧ zR τ caRest a ≠ zR τ caDivisor a) ∧ (zR τ caX a ≠ zR τ caQuotient a ∧ zR τ caX a ≠ zR τ caRest a ∧ zR τ caX a ≠ zR τ caDivisor a) ∧ (zR τ caY a ≠ zR τ caQuotient a ∧ zR τ caY a ≠ zR τ caRest a ∧ zR τ caY a ≠ zR τ caDivisor a) ∧ nuK τ (zR τ caX a) + 1 + (nuK τ (zR τ caX a) + 1) / 2 + 2 ≤ c ∧ c ≤ 30000000) ∧ nuK τ (zR τ caX a) ≤ m := by
  obtain ⟨⟨Z, ⟨N, K⟩, S⟩, ⟨I1, I2⟩, ⟨o1, o2⟩, G, P⟩ := h
  have k := nuK_lt I1 o2
  exact ⟨⟨⟨K.1.1, K.1.2.1, K.1.2.2.1⟩, ⟨nuI_mono hl I1, nuI_mono hl I2⟩, N.1, N.2.1, N.2.2.1, by omega, hl⟩, k⟩
theorem Ca_common_c {C : zC} {n0 : Nat} {a0 : Nat} {a1 : Nat} {a2 : Nat} {κ : zS} {Q : zS → Prop} (W : zW C n0 κ) (Ta0 : zT κ a0 = 4) (Ta1 : zT κ a1 = 8) (Ta2 : zT κ a2 = 8) (c9 m9 : Nat) (hp : (nuI κ a1 30000000 ∧ nuI κ a2 30000000) ∧ caI κ a0 c9 ∧ (a1 ≠ (zR κ caX a0) ∧ a1 ≠ (zR κ caY a0) ∧ a2 ≠ (zR κ caX a0) ∧ a2 ≠ (zR κ caY a0)) ∧ (nuN κ a1 < 2147483648 ^ m9 ∧ nuN κ a2 < 2147483648 ^ m9) ∧ m9 + 1 + (m9 + 1) / 2 + 2 ≤ c9 ∧ c9 ≤ 30000000 ∧ m9 ≤ 16000) (h : ∀ (κ' : zS), (zF (caF (caS κ a0) a0) κ κ' ∧ caI κ' a0 c9 ∧ (∀ b, caS κ' a0 b → caS κ a0 b) ∧ nuI κ' (zR κ' caX a0) c9 ∧ nuN κ' (zR κ' caX a0) = Nat.gcd (nuN κ a1) (nuN κ a2)) → Q κ') : zRun C 4 mCa_common [.ref a0, .ref a1, .ref a2] κ (oV Q noX) := by
  refine Ca_common_run W Ta0 Ta1 Ta2 ?_
  replace W := W.lo (Nat.le_trans W.1.2.1 W.1.2.2) (Nat.le_refl (zn κ))
  unfold w_Ca_common_0
  obtain ⟨⟨I1, I2⟩, CI, ⟨n1x, n1y, n2x, n2y⟩, ⟨h1, h2⟩, p1, p2, p3⟩ := hp
  have Tx := ty_caX W Ta0
  have Ty := ty_caY W Ta0
  have t2 : (2 : Int32).toInt = 2 := rfl
  have tM : (1000000 : Int32).toInt = 1000000 := rfl
  have nxy : (zR κ caX a0) ≠ (zR κ caY a0) := CI.1.2.2.2
  have hj172 : ∀ (l0 : Nat) (τ : zS), zW C (zn κ) τ → zT τ l0 = 4 → (a0 = l0 ∧ ∃ n, cmI κ τ a0 c9 m9 (nuN κ a1) (nuN κ a2) n ∧ (nuN τ (zR τ caY a0) = 0 ∨ nuK τ (zR τ caX a0) ≤ 2)) → w_Ca_common_172 C (zn κ) Q  l0 τ := by
    rintro _ τ172 W172 T172_0 ⟨rfl, j172⟩
    unfold w_Ca_common_172
    refine ⟨fun c1 => ?_, fun c1 => ?_⟩
    · skip
      refine h _ ?_
      · obtain ⟨n, J, z⟩ := j172
        have kx := nuK_i J.2.1.1.1
        rw [lti, t2] at c1
        have yz : nuN τ172 (zR τ172 caY a0) = 0 := by
          rcases z with z | z
          · exact z
          · omega
        refine ⟨J.1.1, J.1.2.1, J.1.2.2, J.2.1.1, ?_⟩
        have g := J.2.2.2.1
        rw [yz, Nat.gcd_zero_right] at g
        exact g
    · skip
      intro T2
      skip
      refine Nu_small_c W172 T2 30000000 ?_ (fun r3 q5 => ?_)
      · obtain ⟨n, J, z⟩ := j172
        exact nuB_mono p2 J.2.1.1.1
      intro W6
      intro M7
      intro T8
      refine Nu_small_c W6 T8 30000000 ?_ (fun r9 q11 => ?_)
      · obtain ⟨n, J, z⟩ := j172
        exact nuB_mono p2 J.2.1.2.1
      intro W12
      intro M13
      obtain ⟨n, J, z⟩ := j172
      have kx := nuK_i J.2.1.1.1
      rw [lti, t2] at c1
      have k2x : nuK τ172 (zR τ172 caX a0) ≤ 2 := by omega
      have k2y : nuK τ172 (zR τ172 caY a0) ≤ 2 := Nat.le_trans (nuK_le (d := 0) J.2.1.2 J.2.2.1.1) k2x
      have vx := q5.2 k2x
      have vy := q11.2 k2y
      have cpx := J.1.2.1.2.1.2.2.2.1
      refine Ch_commonLong_c W12   ?_ (fun r14 q16 => ?_)
      · exact ⟨q5.1, q11.1⟩  -- p4
      intro W17
      intro M18
      intro T19
      have gx : Nat.gcd r3.toInt.toNat r9.toInt.toNat = Nat.gcd (nuN κ a1) (nuN κ a2) := by
        rw [vx, vy, Int.toNat_natCast, Int.toNat_natCast]
        exact J.2.2.2.1
      rw [gx] at q16
      have gl : Nat.gcd (nuN κ a1) (nuN κ a2) < 4611686018427387904 := by
        have g1 := J.2.2.2.1
        by_cases z9 : nuN τ172 (zR τ172 caX a0) = 0
        · have z8 : nuN τ172 (zR τ172 caY a0) = 0 := by
            have := J.2.2.1.1
            omega
          rw [z9, z8] at g1
          rw [← g1]
          decide
        · have l1 := Nat.le_of_dvd (Nat.pos_of_ne_zero z9) (Nat.gcd_dvd_left (nuN τ172 (zR τ172 caX a0)) (nuN τ172 (zR τ172 caY a0)))
          rw [g1] at l1
          have := q5.1.2
          omega
      refine Nu_put_c W17 T19 c9 ?_ (fun κ_20 q21 => ?_)
      · refine ⟨⟨?_, ?_⟩, cpx⟩
        · rw [q16]; exact Int.natCast_nonneg _
        · rw [q16]; omega
      intro W22
      intro M23
      refine h _ ?_
      · obtain ⟨F, ⟨R, N⟩, IX, VX⟩ := q21
        obtain ⟨⟨Z, ⟨NN, KK⟩, S⟩, I, o, G, P⟩ := J
        have rx : zR κ_20 caX a0 = zR τ172 caX a0 := by rw [R]
        refine ⟨Z.tr (caF_n (nuFp_m (P := fun b => b = zR τ172 caX a0) rfl F) (fun b z => S b (Or.inr (Or.inr (Or.inr (Or.inl z)))))), ⟨?_, ?_⟩, ?_, ?_, ?_⟩
        · unfold caN
          rw [R]
          exact NN
        · unfold caK nuC
          rw [R, N]
          exact KK
        · unfold caS
          rw [R]
          exact S
        · rw [rx]
          exact IX
        · rw [rx, VX, q16]
          exact Int.toNat_natCast _
  have hj43 : ∀ (l0 : Nat) (s0 : Nat) (s1 : Nat) (τ : zS), zW C (zn κ) τ → zT τ l0 = 4 → zT τ s0 = 8 → zT τ s1 = 8 → (a0 = l0 ∧ zF (nuF (zR κ caX a0)) κ τ ∧ nuI τ (zR κ caX a0) c9 ∧ s0 = (zR κ caY a0) ∧ (s1 = a1 ∧ nuN τ (zR κ caX a0) = nuN κ a2 ∧ nuN κ a1 ≤ nuN κ a2 ∨ s1 = a2 ∧ nuN τ (zR κ caX a0) = nuN κ a1 ∧ nuN κ a2 ≤ nuN κ a1)) → w_Ca_common_43 C (zn κ) Q  l0 s0 s1 τ := by
    rintro _ y43_s0 y43_s1 τ43 W43 T43_0 T43_1 T43_2 ⟨rfl, j43⟩
    unfold w_Ca_common_43
    intro T24
    intro T25
    obtain ⟨Z43, I43, rfl, s43⟩ := j43
    have uy := nu_z W Ty Z43 (fun z => nxy z.1.symm) (fun z => nxy z.1.symm)
    have cy := CI.2.1.2.2.2.2
    have gen : ∃ A9, (y43_s1 = A9) ∧ (A9 ≠ (zR κ caX a0) ∧ A9 ≠ (zR κ caY a0)) ∧ nuI κ A9 30000000 ∧ zT κ A9 = 8 ∧ nuN κ A9 ≤ nuN τ43 (zR κ caX a0) ∧ nuN τ43 (zR κ caX a0) < 2147483648 ^ m9 ∧ Nat.gcd (nuN τ43 (zR κ caX a0)) (nuN κ A9) = Nat.gcd (nuN κ a1) (nuN κ a2) ∧ nuN τ43 (zR κ caX a0) * nuN κ A9 = nuN κ a1 * nuN κ a2 := by
      rcases s43 with ⟨z1, z2, z3⟩ | ⟨z1, z2, z3⟩
      · exact ⟨a1, z1, ⟨n1x, n1y⟩, I1, Ta1, by rw [z2]; exact z3, by rw [z2]; exact h2, by rw [z2, Nat.gcd_comm], by rw [z2, Nat.mul_comm]⟩
      · exact ⟨a2, z1, ⟨n2x, n2y⟩, I2, Ta2, by rw [z2]; exact z3, by rw [z2]; exact h1, by rw [z2], by rw [z2]⟩
    clear s43
    obtain ⟨A9, rfl, ⟨nAx, nAy⟩, IA, TA, A1, A2, A3, A4⟩ := gen
    have bA := nuB_z (c := 30000000) W TA Z43 (fun z => nAx z.1) (fun z => nAx z.1)
    have kA : nuK κ y43_s1 ≤ m9 := nuK_lt IA (Nat.lt_of_le_of_lt A1 A2)
    refine Nu_copy_c W43 T24 T25 c9 30000000 ?_ (fun κ_26 q27 => ?_)
    · rw [uy.2.1, uy.2.2.2, bA.2.2.2]
      exact ⟨cy, (bA.2.1 IA).1, nAy.symm, by omega, p2⟩
    obtain ⟨F26, B26, V26, K26, Z26⟩ := q27
    have IAy := Z26 (bA.2.1 IA).2
    intro W28
    intro M29
    unfold w_Ca_common_49
    refine ⟨fun n l0 l4 τ => n = (1000000 - l4.toInt).toNat ∧ (a0 = l0 ∧ (0 ≤ l4.toInt ∧ l4.toInt ≤ 1000000) ∧ cmI κ τ a0 c9 m9 (nuN κ a1) (nuN κ a2) l4.toInt.toNat), ⟨_, rfl, ?_⟩, ?_⟩
    · have Zp : zF (nuFp (oo2 (zR κ caX a0) (zR κ caY a0))) κ κ_26 := (nuFp_m (Or.inl rfl) Z43).tr (nuFp_m (Or.inr rfl) F26)
      obtain ⟨rq, rr, rd, rx, ry, rf⟩ := ca_ref (a := a0) Zp
      obtain ⟨⟨⟨m1, m2, m3⟩, ⟨m4, m5, m6⟩, ⟨m7, m8, m9'⟩, ma⟩, ⟨⟨k1, k2, k3, k4, k5⟩, k6⟩⟩ := CI
      have Tq := ty_caQuotient W Ta0
      have Tr := ty_caRest W Ta0
      have Td := ty_caDivisor W Ta0
      have cq := nuFp_C W Tq Zp (oo2_n m4.symm m7.symm) k1
      have cr := nuFp_C W Tr Zp (oo2_n m5.symm m8.symm) k2
      have cd := nuFp_C W Td Zp (oo2_n m6.symm m9'.symm) k3
      have Tx43 : zT τ43 (zR κ caX a0) = 8 := Z43.t Tx (by decide)
      have bx := nuB_z (c := c9) W43 Tx43 F26 (fun z => nxy z.1) (fun z => nxy z.1)
      have eN : zN κ_26 (zR κ caFactors a0) = zN κ (zR κ caFactors a0) := Zp.l (ty_caFactors W Ta0)
      have mem : ∀ b, oo2 (zR κ caX a0) (zR κ caY a0) b → caS κ a0 b := fun b z => (show b = _ ∨ b = _ from z).elim (fun y => Or.inr (Or.inr (Or.inr (Or.inl y)))) (fun y => Or.inr (Or.inr (Or.inr (Or.inr y))))
      have vY : nuN κ_26 (zR κ caY a0) = nuN κ y43_s1 := by rw [V26, bA.2.2.1]
      refine ⟨rfl, ⟨by decide, by decide⟩, ⟨caF_n Zp mem, ⟨?_, ?_⟩, ?_⟩, ?_, ?_, ?_, ?_⟩
      · unfold caN
        rw [rq, rr, rd, rx, ry]
        exact ⟨⟨m1, m2, m3⟩, ⟨m4, m5, m6⟩, ⟨m7, m8, m9'⟩, ma⟩
      · unfold caK
        rw [rq, rr, rd, rx, ry, rf, eN]
        exact ⟨⟨cq, cr, cd, (bx.2.1 I43).1.2.1, B26.2.1⟩, k6⟩
      · unfold caS
        rw [rq, rr, rd, rx, ry]
        exact fun b z => z
      · rw [rx, ry]
        exact ⟨bx.2.1 I43, B26, IAy⟩
      · rw [rx, ry, vY, bx.2.2.1]
        exact ⟨A1, A2⟩
      · rw [rx, ry, vY, bx.2.2.1]
        exact A3
      · rw [rx, ry, vY, bx.2.2.1, A4]
        show _ * 2 ^ 0 ≤ _
        rw [Nat.pow_zero, Nat.mul_one]
        exact Nat.le_refl _
    rintro n49 _ x49_4 κ49 W49 T49_0 ⟨hn49, rfl, i49⟩
    obtain ⟨k49, J49⟩ := i49
    have kx49 := nuK_i J49.2.1.1.1
    have ky49 := nuK_i J49.2.1.2.1
    have ly49 := J49.2.1.2.1.1
    have zy49 := nuK_z J49.2.1.2
    have hj126 : ∀ (l0 : Nat) (l4 : Int32) (τ : zS), zW C (zn κ) τ → zT τ l0 = 4 → (a0 = l0 ∧ x49_4 = l4 ∧ cmI κ τ a0 c9 m9 (nuN κ a1) (nuN κ a2) x49_4.toInt.toNat ∧ 0 < nuN τ (zR τ caY a0) ∧ x49_4.toInt < 1000000) → w_Ca_common_126 C (zn κ) Q (fun (l0' : Nat) (l4' : Int32) (τ : zS) => ∃ k < n49, (fun (n : Nat) (l0 : Nat) (l4 : Int32) (τ : zS) => n = (1000000 - l4.toInt).toNat ∧ (a0 = l0 ∧ (0 ≤ l4.toInt ∧ l4.toInt ≤ 1000000) ∧ cmI κ τ a0 c9 m9 (nuN κ a1) (nuN κ a2) l4.toInt.toNat)) k l0' l4' τ) l0 l4 τ := by
      rintro _ y126_4 τ126 W126 T126_0 ⟨rfl, j126⟩
      unfold w_Ca_common_126
      intro T30
      intro T31
      intro T32
      obtain ⟨rfl, J126, y126, l126⟩ := j126
      refine Ca_divide_c W126 T30 T31 T32 c9 ?_ (fun κ_33 q34 => ?_)
      · exact (cm_p J126 p1 p2).1  -- p9
      intro W35
      intro M36
      intro x37 hx37
      intro κ_38 hκ_38
      intro W39
      intro κ_40 hκ_40
      intro W41
      intro κ_42 hκ_42
      intro W43
      intro x44 hx44
      refine ⟨_, ?_, rfl, ?_⟩
      · have e : x44.toInt = x49_4.toInt + 1 := by rw [hx44, add_i (by rw [t1i]; omega) (by rw [t1i]; omega), t1i]
        rw [hn49]; omega
      · have e : x44.toInt = x49_4.toInt + 1 := by rw [hx44, add_i (by rw [t1i]; omega) (by rw [t1i]; omega), t1i]
        have s := cm_div W126 T126_0 J126 y126 q34 hx37 hκ_38 hκ_40 hκ_42
        have e2 : x44.toInt.toNat = x49_4.toInt.toNat + 1 := by omega
        exact ⟨rfl, by omega, by rw [e2]; exact s⟩
    refine ⟨fun c45 => ?_, fun c45 => ?_⟩
    · skip
      refine hj172 _ _ W49 ?_ ?_
      · exact T49_0  -- t12
      · rw [lei, tM] at c45
        exact ⟨rfl, _, J49, Or.inl (cm_end J49 h1 h2 p3 (by omega))⟩
    · skip
      refine ⟨fun c46 => ?_, fun c46 => ?_⟩
      · skip
        refine hj172 _ _ W49 ?_ ?_
        · exact T49_0  -- t14
        · rw [lei, t0i] at c46
          exact ⟨rfl, _, J49, Or.inl (zy49.mp (by omega))⟩
      · skip
        refine ⟨fun c47 => ?_, fun c47 => ?_⟩
        · skip
          refine hj172 _ _ W49 ?_ ?_
          · exact T49_0  -- t16
          · rw [lei, t2] at c47
            exact ⟨rfl, _, J49, Or.inr (by omega)⟩
        · skip
          refine ⟨fun c48 => ?_, fun c48 => ?_⟩
          · skip
            refine hj126 _ _ _ W49 ?_ ?_
            · exact T49_0  -- t18
            · rw [lei, tM] at c45
              rw [lei, t0i] at c46
              exact ⟨rfl, rfl, J49, Nat.pos_of_ne_zero (fun z => by
                have := zy49.mpr z
                omega), by omega⟩
          · skip
            intro T49
            rw [lei, tM] at c45
            rw [lei, t0i] at c46
            have yp : 0 < nuN κ49 (zR κ49 caY a0) := Nat.pos_of_ne_zero (fun z => by
              have := zy49.mpr z
              omega)
            refine Ca_leap_c W49 T49  ?_ (fun r50 κ_51 q52 => ?_)
            · exact ⟨(cm_p J49 p1 p2).1.2.1, J49.2.2.1.1, Nat.le_of_eq J49.1.2.1.2.2.symm⟩  -- p20
            obtain ⟨Z51, ⟨R51, I51, N51, A51⟩, L51⟩ := q52
            have J51 := cm_lp J49 Z51 R51 I51 N51 A51
            have T51 : zT κ_51 a0 = 4 := Z51.t T49_0 (by decide)
            have nx51 : ∀ z, nuN κ_51 z = nuN κ49 z := fun z => (nu_same (c := c9) (by rw [R51]) I51 A51 N51).2.1
            have yp51 : 0 < nuN κ_51 (zR κ_51 caY a0) := by rw [nx51, R51]; exact yp
            have f51 := J51.1.2.1.2.2
            intro W53
            intro M54
            refine ⟨fun c55 => ?_, fun c55 => ?_⟩
            · skip
              refine hj126 _ _ _ W53 ?_ ?_
              · exact T51  -- t21
              · exact ⟨rfl, rfl, J51, yp51, by omega⟩  -- k22
            · skip
              refine ⟨?_, ?_⟩
              · rw [inb_iff, t0i]; omega  -- b23
              refine ⟨?_, ?_⟩
              · rw [inb_iff, t1i]; omega  -- b24
              refine ⟨?_, ?_⟩
              · rw [inb_iff, t2]; omega  -- b25
              refine ⟨?_, ?_⟩
              · have t3 : (3 : Int32).toInt = 3 := rfl
                rw [inb_iff, t3]; omega
              intro T56
              have lp := L51 c55
              rw [← R51] at lp
              have eX : nuN κ49 (zR κ_51 caX a0) = nuN κ_51 (zR κ_51 caX a0) := (nx51 _).symm
              have eY : nuN κ49 (zR κ_51 caY a0) = nuN κ_51 (zR κ_51 caY a0) := (nx51 _).symm
              rw [eX, eY] at lp
              refine Ca_blend_c W53 T56 c9 ?_ (fun κ_57 q58 => ?_)
              · have k := (cm_p J51 p1 p2).2
                exact ⟨J51.2.1, J51.1.2.1.1.2.2.2, J51.2.2.1.1, ⟨lp.1, lp.2.1, lp.2.2.1⟩, by omega, p2⟩
              intro W59
              intro M60
              intro x61 hx61
              refine ⟨_, ?_, rfl, ?_⟩
              · have e : x61.toInt = x49_4.toInt + 1 := by rw [hx61, add_i (by rw [t1i]; omega) (by rw [t1i]; omega), t1i]
                rw [hn49]; omega
              · have e : x61.toInt = x49_4.toInt + 1 := by rw [hx61, add_i (by rw [t1i]; omega) (by rw [t1i]; omega), t1i]
                obtain ⟨B1, B2, B3, B4, B5⟩ := q58
                have s := cm_bl W53 T51 J51 lp.2.2.1 lp.2.2.2 B1 B2 B3 B4 B5
                have e2 : x61.toInt.toNat = x49_4.toInt.toNat + 1 := by omega
                exact ⟨rfl, by omega, by rw [e2]; exact s⟩
  have hj27 : ∀ (l0 : Nat) (l1 : Nat) (l2 : Nat) (l3 : Int32) (s0 : Nat) (s1 : Nat) (τ : zS), zW C (zn κ) τ → zT τ l0 = 4 → zT τ l1 = 8 → zT τ l2 = 8 → zT τ s0 = 8 → zT τ s1 = 8 → (κ = τ ∧ a0 = l0 ∧ a1 = l1 ∧ a2 = l2 ∧ s0 = (zR κ caX a0) ∧ (l3 = 0 ∧ s1 = a2 ∧ nuN κ a1 ≤ nuN κ a2 ∨ l3 ≠ 0 ∧ s1 = a1 ∧ nuN κ a2 ≤ nuN κ a1)) → w_Ca_common_27 C (zn κ) Q  l0 l1 l2 l3 s0 s1 τ := by
    rintro _ _ _ y27_3 y27_s0 y27_s1 _ W27 T27_0 T27_1 T27_2 T27_3 T27_4 ⟨rfl, rfl, rfl, rfl, j27⟩
    unfold w_Ca_common_27
    intro T62
    intro T63
    obtain ⟨rfl, s27⟩ := j27
    have cx := CI.2.1.2.2.2.1
    refine Nu_copy_c W27 T62 T63 c9 30000000 ?_ (fun κ_64 q65 => ?_)
    · rcases s27 with ⟨z1, rfl, z3⟩ | ⟨z1, rfl, z3⟩
      · have k := nuK_lt I2 h2
        exact ⟨cx, I2.1, n2x.symm, by omega, p2⟩
      · have k := nuK_lt I1 h1
        exact ⟨cx, I1.1, n1x.symm, by omega, p2⟩
    obtain ⟨F64, B64, V64, K64, Z64⟩ := q65
    have rY64 : zR κ_64 caY a0 = (zR κ caY a0) := nuF_r F64 (by decide) (by decide)
    have T64 : zT κ_64 a0 = 4 := F64.t Ta0 (by decide)
    intro W66
    intro M67
    refine ⟨fun c68 => ?_, fun c68 => ?_⟩
    · skip
      refine hj43 _ _ _ _ W66 ?_ ?_ ?_ ?_
      · exact T64  -- t31
      · rw [rY64]; exact F64.t Ty (by decide)  -- t32
      · exact F64.t Ta1 (by decide)  -- t33
      · rcases s27 with ⟨z1, rfl, z3⟩ | ⟨z1, rfl, z3⟩
        · exact ⟨rfl, F64, ⟨B64, Z64 I2.2⟩, rY64, Or.inl ⟨rfl, V64, z3⟩⟩
        · exact absurd c68 z1
    · skip
      refine hj43 _ _ _ _ W66 ?_ ?_ ?_ ?_
      · exact T64  -- t35
      · rw [rY64]; exact F64.t Ty (by decide)  -- t36
      · exact F64.t Ta2 (by decide)  -- t37
      · rcases s27 with ⟨z1, rfl, z3⟩ | ⟨z1, rfl, z3⟩
        · exact absurd z1 c68
        · exact ⟨rfl, F64, ⟨B64, Z64 I1.2⟩, rY64, Or.inr ⟨rfl, V64, z3⟩⟩
  have hj13 : ∀ (l0 : Nat) (l1 : Nat) (l2 : Nat) (s0 : Int32) (τ : zS), zW C (zn κ) τ → zT τ l0 = 4 → zT τ l1 = 8 → zT τ l2 = 8 → (κ = τ ∧ a0 = l0 ∧ a1 = l1 ∧ a2 = l2 ∧ (s0 = 0 ∧ nuN κ a1 ≤ nuN κ a2 ∨ s0 ≠ 0 ∧ nuN κ a2 ≤ nuN κ a1)) → w_Ca_common_13 C (zn κ) Q  l0 l1 l2 s0 τ := by
    rintro _ _ _ y13_s0 _ W13 T13_0 T13_1 T13_2 ⟨rfl, rfl, rfl, rfl, j13⟩
    unfold w_Ca_common_13
    refine ⟨fun c69 => ?_, fun c69 => ?_⟩
    · skip
      refine hj27 _ _ _ _ _ _ _ W13 ?_ ?_ ?_ ?_ ?_ ?_
      · exact Ta0  -- t39
      · exact Ta1  -- t40
      · exact Ta2  -- t41
      · exact Tx  -- t42
      · exact Ta2  -- t43
      · rcases j13 with ⟨z1, z3⟩ | ⟨z1, z3⟩
        · exact ⟨rfl, rfl, rfl, rfl, rfl, Or.inl ⟨c69, rfl, z3⟩⟩
        · exact absurd c69 z1
    · skip
      refine hj27 _ _ _ _ _ _ _ W13 ?_ ?_ ?_ ?_ ?_ ?_
      · exact Ta0  -- t45
      · exact Ta1  -- t46
      · exact Ta2  -- t47
      · exact Tx  -- t48
      · exact Ta1  -- t49
      · rcases j13 with ⟨z1, z3⟩ | ⟨z1, z3⟩
        · exact absurd z1 c69
        · exact ⟨rfl, rfl, rfl, rfl, rfl, Or.inr ⟨c69, rfl, z3⟩⟩
  intro T70
  intro T71
  refine Nu_compare_c W T70 T71 30000000 30000000 ?_ (fun r72 q74 => ?_)
  · exact ⟨I1, I2⟩  -- p51
  intro W75
  intro M76
  refine ⟨fun c77 => ?_, fun c77 => ?_⟩
  · skip
    refine hj13 _ _ _ _ _ W75 ?_ ?_ ?_ ?_
    · exact Ta0  -- t52
    · exact Ta1  -- t53
    · exact Ta2  -- t54
    · rw [lti, t0i] at c77
      exact ⟨rfl, rfl, rfl, rfl, Or.inl ⟨rfl, by omega⟩⟩
  · skip
    refine hj13 _ _ _ _ _ W75 ?_ ?_ ?_ ?_
    · exact Ta0  -- t56
    · exact Ta1  -- t57
    · exact Ta2  -- t58
    · rw [lti, t0i] at c77
      exact ⟨rfl, rfl, rfl, rfl, Or.inr ⟨by decide, by omega⟩⟩
