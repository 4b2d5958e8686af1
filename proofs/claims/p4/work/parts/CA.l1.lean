set_option maxHeartbeats 1600000
/-! the class: Calc's leap -/
theorem jtd_i {x y : Int64} (hy : 0 < y.toInt) : (x / y).toInt = x.toInt.tdiv y.toInt := by
  have l1 := Int64.toInt_lt x
  have l2 := Int64.le_toInt x
  rw [Int64.toInt_div]
  by_cases z : 0 ≤ x.toInt
  · have a1 : x.toInt / y.toInt ≤ x.toInt := Int.ediv_le_self _ z
    have a2 : 0 ≤ x.toInt / y.toInt := Int.ediv_nonneg z (by omega)
    rw [Int.tdiv_eq_ediv_of_nonneg z]
    exact Int.bmod_eq_of_le (by omega) (by omega)
  · have a1 : -x.toInt / y.toInt ≤ -x.toInt := Int.ediv_le_self _ (by omega)
    have a2 : 0 ≤ -x.toInt / y.toInt := Int.ediv_nonneg (by omega) (by omega)
    have e : x.toInt = -(-x.toInt) := by omega
    have e2 : x.toInt.tdiv y.toInt = -(-x.toInt / y.toInt) := by
      conv => lhs; rw [e]
      rw [Int.neg_tdiv, Int.tdiv_eq_ediv_of_nonneg (by omega)]
    rw [e2]
    exact Int.bmod_eq_of_le (by omega) (by omega)
theorem uj_4 {κ κ1 κ3 κ5 κ7 : zS} {F : Nat} {a b c d : Int64} (e1 : κ1 = uj κ F 0 a) (e3 : κ3 = uj κ1 F 1 b) (e5 : κ5 = uj κ3 F 2 c) (e7 : κ7 = uj κ5 F 3 d) : (zJ κ7 F 0 = a ∧ zJ κ7 F 1 = b ∧ zJ κ7 F 2 = c ∧ zJ κ7 F 3 = d) ∧ zR κ7 = zR κ ∧ zI κ7 = zI κ ∧ zN κ7 = zN κ ∧ zA κ7 = zA κ := by
  have u : ∀ (κ : zS) (i : Nat) (x : Int64), zJ (uj κ F i x) F = vp_updL (zJ κ F) i x := fun _ _ _ => if_pos rfl
  refine ⟨?_, by rw [e7, e5, e3, e1]; rfl, by rw [e7, e5, e3, e1]; rfl, by rw [e7, e5, e3, e1]; rfl, by rw [e7, e5, e3, e1]; rfl⟩
  rw [e7, u, e5, u, e3, u, e1, u]
  exact ⟨rfl, rfl, rfl, rfl⟩
/-- the factors that a leap leaves -/
def lpO (κ : zS) (F X Y : Nat) : Prop := lpS (zJ κ F 0).toInt (zJ κ F 1).toInt (zJ κ F 2).toInt (zJ κ F 3).toInt ∧ lpB (zJ κ F 0).toInt (zJ κ F 1).toInt (zJ κ F 2).toInt (zJ κ F 3).toInt ∧ lpV X Y (zJ κ F 0).toInt (zJ κ F 1).toInt (zJ κ F 2).toInt (zJ κ F 3).toInt ∧ (zJ κ F 1).toInt ≠ 0
theorem Ca_leap_c {C : zC} {n0 : Nat} {a0 : Nat} {κ : zS} {Q : Int32 → zS → Prop} (W : zW C n0 κ) (Ta0 : zT κ a0 = 4)  (hp : (nuI κ (zR κ caX a0) 30000000 ∧ nuI κ (zR κ caY a0) 30000000) ∧ nuN κ (zR κ caY a0) ≤ nuN κ (zR κ caX a0) ∧ 4 ≤ (zN κ (zR κ caFactors a0))) (h : ∀ (v : Int32) (κ' : zS), (zF (oneF caFactors a0) κ κ' ∧ (zR κ' = zR κ ∧ zI κ' = zI κ ∧ zN κ' = zN κ ∧ zA κ' = zA κ) ∧ (v ≠ 0 → lpO κ' (zR κ caFactors a0) (nuN κ (zR κ caX a0)) (nuN κ (zR κ caY a0)))) → Q v κ') : zRun C 1 mCa_leap [.ref a0] κ (oI Q noX) := by
  refine Ca_leap_run W Ta0 ?_
  replace W := W.lo (Nat.le_trans W.1.2.1 W.1.2.2) (Nat.le_refl (zn κ))
  unfold w_Ca_leap_0
  obtain ⟨⟨IX, IY⟩, p1, p2⟩ := hp
  have z64 : (0 : Int64).toInt = 0 := rfl
  have m64 : (2147483647 : Int64).toInt = 2147483647 := rfl
  have n64 : (-2147483647 : Int64).toInt = -2147483647 := rfl
  have hj213 : ∀ (l0 : Nat) (l6 : Int64) (l8 : Int64) (l10 : Int64) (l12 : Int64) (τ : zS), zW C (zn κ) τ → zT τ l0 = 4 → (κ = τ ∧ a0 = l0 ∧ lpS l6.toInt l8.toInt l10.toInt l12.toInt ∧ lpB l6.toInt l8.toInt l10.toInt l12.toInt ∧ lpV (nuN κ (zR κ caX a0)) (nuN κ (zR κ caY a0)) l6.toInt l8.toInt l10.toInt l12.toInt) → w_Ca_leap_213 C (zn κ) Q  l0 l6 l8 l10 l12 τ := by
    rintro _ y213_6 y213_8 y213_10 y213_12 _ W213 T213_0 ⟨rfl, rfl, j213⟩
    unfold w_Ca_leap_213
    refine ⟨?_, ?_⟩
    · rw [inb_iff, t0i]; omega  -- b1
    intro κ_1 hκ_1
    intro W2
    have R1 : zR κ_1 = zR κ := by rw [hκ_1]; rfl
    have N1 : zN κ_1 = zN κ := by rw [hκ_1]; rfl
    have E1 : κ_1 = uj κ (zR κ caFactors a0) 0 y213_6 := hκ_1
    refine ⟨?_, ?_⟩
    · rw [R1, N1, inb_iff, t1i]; omega  -- b2
    intro κ_3 hκ_3
    intro W4
    have R3 : zR κ_3 = zR κ := by rw [hκ_3]; exact R1
    have N3 : zN κ_3 = zN κ := by rw [hκ_3]; exact N1
    rw [R1] at hκ_3
    have E3 : κ_3 = uj κ_1 (zR κ caFactors a0) 1 y213_8 := hκ_3
    refine ⟨?_, ?_⟩
    · have t2 : (2 : Int32).toInt = 2 := rfl
      rw [R3, N3, inb_iff, t2]; omega
    intro κ_5 hκ_5
    intro W6
    have R5 : zR κ_5 = zR κ := by rw [hκ_5]; exact R3
    have N5 : zN κ_5 = zN κ := by rw [hκ_5]; exact N3
    rw [R3] at hκ_5
    have E5 : κ_5 = uj κ_3 (zR κ caFactors a0) 2 y213_10 := hκ_5
    refine ⟨?_, ?_⟩
    · have t3 : (3 : Int32).toInt = 3 := rfl
      rw [R5, N5, inb_iff, t3]; omega
    intro κ_7 hκ_7
    intro W8
    rw [R5] at hκ_7
    have E7 : κ_7 = uj κ_5 (zR κ caFactors a0) 3 y213_12 := hκ_7
    have u := uj_4 E1 E3 E5 E7
    have ow := W.o (show zr caFactors = some 22 by decide +kernel) (by decide) Ta0
    have o1 : zO κ_1 = zO κ := by rw [E1]; rfl
    have o3' : zO κ_3 = zO κ := by rw [E3]; exact o1
    have o5 : zO κ_5 = zO κ := by rw [E5]; exact o3'
    have Z1 : zF (oneF caFactors a0) κ κ_1 := by rw [E1]; exact zF_uj (by rw [ow]; exact ⟨rfl, rfl⟩)
    have Z3 : zF (oneF caFactors a0) κ_1 κ_3 := by rw [E3]; exact zF_uj (by rw [o1, ow]; exact ⟨rfl, rfl⟩)
    have Z5 : zF (oneF caFactors a0) κ_3 κ_5 := by rw [E5]; exact zF_uj (by rw [o3', ow]; exact ⟨rfl, rfl⟩)
    have Z7 : zF (oneF caFactors a0) κ_5 κ_7 := by rw [E7]; exact zF_uj (by rw [o5, ow]; exact ⟨rfl, rfl⟩)
    have Z := ((Z1.tr Z3).tr Z5).tr Z7
    refine ⟨fun c9 => ?_, fun c9 => ?_⟩
    · skip
      refine h _ _ ?_
      · exact ⟨Z, u.2, fun y => absurd rfl y⟩  -- q5
    · skip
      refine h _ _ ?_
      · refine ⟨Z, u.2, fun _ => ?_⟩
        unfold lpO
        rw [u.1.1, u.1.2.1, u.1.2.2.1, u.1.2.2.2]
        refine ⟨j213.1, j213.2.1, j213.2.2, fun y => ?_⟩
        have c9' : ¬ lg_cmp y213_8 (0 : Int64) = 0 := by assumption
        exact c9' ((lg_cmp_eq _ _).mpr (Int64.toInt_inj.mp (y.trans z64.symm)))
  intro T10
  refine Nu_bits_c W T10 30000000 ?_ (fun r11 q13 => ?_)
  · exact ⟨IX, Nat.le_refl _⟩  -- p7
  intro W14
  intro M15
  intro x16 hx16
  intro T17
  have t62 : (62 : Int32).toInt = 62 := rfl
  have kX := nuK_i IX.1
  have lX := IX.1.1
  have cX := IX.1.2.1
  have q13a := q13.1
  have d62 : (r11 - 62).toInt = r11.toInt - 62 := by rw [sub_i (by rw [t62]; omega) (by rw [t62]; omega), t62]
  have e16 : (0 ≤ x16.toInt ∧ x16.toInt ≤ 1000000000) ∧ r11.toInt ≤ x16.toInt + 62 := by
    rw [hx16]
    by_cases z : r11 - 62 < (0 : Int32)
    · rw [if_pos z]
      rw [lti, t0i, d62] at z
      rw [t0i]
      omega
    · rw [if_neg z]
      rw [lti, t0i, d62] at z
      omega
  have lt16 : nuN κ (zR κ caX a0) < 2 ^ (x16.toInt.toNat + 62) := Nat.lt_of_lt_of_le q13.2.1 (Nat.pow_le_pow_right (by decide) (by omega))
  refine Nu_high_c W14 T17 30000000 ?_ (fun r18 q20 => ?_)
  · exact ⟨IX, e16.1, lt16⟩  -- p8
  intro W21
  intro M22
  intro T23
  refine Nu_high_c W21 T23 30000000 ?_ (fun r24 q26 => ?_)
  · exact ⟨IY, e16.1, Nat.lt_of_le_of_lt p1 lt16⟩  -- p9
  intro W27
  intro M28
  have pU : 0 < 2 ^ x16.toInt.toNat := Nat.pow_pos (by decide)
  have hH : nuN κ (zR κ caX a0) / 2 ^ x16.toInt.toNat < 4611686018427387904 := by
    rw [Nat.div_lt_iff_lt_mul pU]
    rw [Nat.pow_add, Nat.mul_comm] at lt16
    exact lt16
  have hL : nuN κ (zR κ caY a0) / 2 ^ x16.toInt.toNat ≤ nuN κ (zR κ caX a0) / 2 ^ x16.toInt.toNat := Nat.div_le_div_right p1
  have dX := Nat.div_add_mod' (nuN κ (zR κ caX a0)) (2 ^ x16.toInt.toNat)
  have dY := Nat.div_add_mod' (nuN κ (zR κ caY a0)) (2 ^ x16.toInt.toNat)
  have mX := Nat.mod_lt (nuN κ (zR κ caX a0)) pU
  have mY := Nat.mod_lt (nuN κ (zR κ caY a0)) pU
  unfold w_Ca_leap_49
  refine ⟨fun n l0 l2 l4 l6 l8 l10 l12 l14 τ => n = (100 - l14.toInt).toNat ∧ (κ = τ ∧ a0 = l0 ∧ 0 ≤ l14.toInt ∧ lpI (nuN κ (zR κ caX a0)) (nuN κ (zR κ caY a0)) (nuN κ (zR κ caX a0) / 2 ^ x16.toInt.toNat) (nuN κ (zR κ caY a0) / 2 ^ x16.toInt.toNat) l2.toInt l4.toInt l6.toInt l8.toInt l10.toInt l12.toInt), ⟨_, rfl, ?_⟩, ?_⟩
  · refine ⟨rfl, rfl, by decide, Or.inl ⟨by decide, by decide, by decide, by decide⟩, ⟨by decide, by decide, by decide, by decide⟩, lpV_0 p1, ?_⟩
    show (r18.toInt = 1 * _ + 0 * _ ∧ r24.toInt = 0 * _ + 1 * _) ∧ _
    rw [q20, q26]
    generalize nuN κ (zR κ caX a0) / 2 ^ x16.toInt.toNat = H at *
    generalize nuN κ (zR κ caY a0) / 2 ^ x16.toInt.toNat = L at *
    omega
  rintro n49 _ x49_2 x49_4 x49_6 x49_8 x49_10 x49_12 x49_14 _ W49 T49_0 ⟨hn49, rfl, rfl, i49⟩
  obtain ⟨k49, J49⟩ := i49
  refine ⟨fun c29 => ?_, fun c29 => ?_⟩
  · skip
    refine hj213 _ _ _ _ _ _ W49 ?_ ?_
    · exact T49_0  -- t11
    · exact ⟨rfl, rfl, J49.1, J49.2.1, J49.2.2.1⟩  -- k12
  · skip
    obtain ⟨Ba, Bb, Bc, Bd⟩ := J49.2.1
    have hb := J49.2.2.2.2.1
    have lb := J49.2.2.2.2.2
    have s1 : (x49_4 + x49_10).toInt = x49_4.toInt + x49_10.toInt := jadd_i (by omega) (by omega)
    have s2 : (x49_4 + x49_12).toInt = x49_4.toInt + x49_12.toInt := jadd_i (by omega) (by omega)
    have s3 : (x49_2 + x49_6).toInt = x49_2.toInt + x49_6.toInt := jadd_i (by omega) (by omega)
    have s4 : (x49_2 + x49_8).toInt = x49_2.toInt + x49_8.toInt := jadd_i (by omega) (by omega)
    refine ⟨fun c30 => ?_, fun c30 => ?_⟩
    · skip
      refine hj213 _ _ _ _ _ _ W49 ?_ ?_
      · exact T49_0  -- t13
      · exact ⟨rfl, rfl, J49.1, J49.2.1, J49.2.2.1⟩  -- k14
    · skip
      refine ⟨fun c31 => ?_, fun c31 => ?_⟩
      · skip
        refine hj213 _ _ _ _ _ _ W49 ?_ ?_
        · exact T49_0  -- t15
        · exact ⟨rfl, rfl, J49.1, J49.2.1, J49.2.2.1⟩  -- k16
      · skip
        rw [lg_cmp_le, jlei, s1, z64] at c30
        rw [lg_cmp_le, jlei, s2, z64] at c31
        refine ⟨?_, ?_⟩
        · exact j_n0 (by rw [s1]; omega)  -- b17
        intro x32 hx32
        have d1 := jtd_i (x := x49_2 + x49_6) (y := x49_4 + x49_10) (by rw [s1]; omega)
        rw [← hx32, s3, s1] at d1
        have d2 := jtd_i (x := x49_2 + x49_8) (y := x49_4 + x49_12) (by rw [s2]; omega)
        rw [s4, s2] at d2
        refine ⟨?_, ?_⟩
        · exact j_n0 (by rw [s2]; omega)  -- b18
        refine ⟨fun c33 => ?_, fun c33 => ?_⟩
        · skip
          refine hj213 _ _ _ _ _ _ W49 ?_ ?_
          · exact T49_0  -- t19
          · exact ⟨rfl, rfl, J49.1, J49.2.1, J49.2.2.1⟩  -- k20
        · skip
          have key : lg_cmp x32 ((x49_2 + x49_8) / (x49_4 + x49_12)) = 0 → lg_cmp x32 2147483647 ≤ 0 → (1 ≤ x32.toInt ∧ x32.toInt ≤ 2147483647) ∧ (x49_6 - x32 * x49_10).toInt = x49_6.toInt - x32.toInt * x49_10.toInt ∧ (x49_8 - x32 * x49_12).toInt = x49_8.toInt - x32.toInt * x49_12.toInt ∧ (x49_2 - x32 * x49_4).toInt = x49_2.toInt - x32.toInt * x49_4.toInt ∧ (lpB x49_10.toInt x49_12.toInt (x49_6.toInt - x32.toInt * x49_10.toInt) (x49_8.toInt - x32.toInt * x49_12.toInt) → lpI (nuN κ (zR κ caX a0)) (nuN κ (zR κ caY a0)) (nuN κ (zR κ caX a0) / 2 ^ x16.toInt.toNat) (nuN κ (zR κ caY a0) / 2 ^ x16.toInt.toNat) x49_4.toInt (x49_2.toInt - x32.toInt * x49_4.toInt) x49_10.toInt x49_12.toInt (x49_6.toInt - x32.toInt * x49_10.toInt) (x49_8.toInt - x32.toInt * x49_12.toInt)) := fun y1 y2 => by
            rw [(lg_cmp_eq _ _).mp y1] at d1
            rw [lg_cmp_le, jlei, m64] at y2
            have y3 : x32.toInt = (x49_2.toInt + x49_8.toInt).tdiv (x49_4.toInt + x49_12.toInt) := by rw [(lg_cmp_eq _ _).mp y1]; exact d2
            rw [← (lg_cmp_eq _ _).mp y1] at d1
            have r := lpI_s J49 dX.symm dY.symm mX mY (by omega) (by omega) d1 y3 rfl rfl
            have c1 : -(2147483647 * 2147483647) ≤ x32.toInt * x49_10.toInt ∧ x32.toInt * x49_10.toInt ≤ 2147483647 * 2147483647 := by
              refine ⟨?_, ?_⟩
              · have a := Int.mul_le_mul_of_nonneg_left (a := -2147483647) (b := x49_10.toInt) (c := x32.toInt) Bc.1 (by omega)
                omega
              · have a := Int.mul_le_mul_of_nonneg_left (b := 2147483647) (a := x49_10.toInt) (c := x32.toInt) Bc.2 (by omega)
                omega
            have c2 : -(2147483647 * 2147483647) ≤ x32.toInt * x49_12.toInt ∧ x32.toInt * x49_12.toInt ≤ 2147483647 * 2147483647 := by
              refine ⟨?_, ?_⟩
              · have a := Int.mul_le_mul_of_nonneg_left (a := -2147483647) (b := x49_12.toInt) (c := x32.toInt) Bd.1 (by omega)
                omega
              · have a := Int.mul_le_mul_of_nonneg_left (b := 2147483647) (a := x49_12.toInt) (c := x32.toInt) Bd.2 (by omega)
                omega
            have g1 : (x32 * x49_10).toInt = x32.toInt * x49_10.toInt := jmul_i (by omega) (by omega)
            have g2 : (x32 * x49_12).toInt = x32.toInt * x49_12.toInt := jmul_i (by omega) (by omega)
            have g3 : (x32 * x49_4).toInt = x32.toInt * x49_4.toInt := jmul_i (by omega) (by omega)
            refine ⟨⟨r.1, y2⟩, ?_, ?_, ?_, r.2.2.2⟩
            · rw [jsub_i (by rw [g1]; omega) (by rw [g1]; omega), g1]
            · rw [jsub_i (by rw [g2]; omega) (by rw [g2]; omega), g2]
            · rw [jsub_i (by rw [g3]; omega) (by rw [g3]; omega), g3]
          refine ⟨fun c34 => ?_, fun c34 => ?_⟩
          · skip
            intro x35 hx35
            intro x36 hx36
            refine ⟨fun c37 => ?_, fun c37 => ?_⟩
            · skip
              refine hj213 _ _ _ _ _ _ W49 ?_ ?_
              · exact T49_0  -- t21
              · exact ⟨rfl, rfl, J49.1, J49.2.1, J49.2.2.1⟩  -- k22
            · skip
              refine ⟨fun c38 => ?_, fun c38 => ?_⟩
              · skip
                refine hj213 _ _ _ _ _ _ W49 ?_ ?_
                · exact T49_0  -- t23
                · exact ⟨rfl, rfl, J49.1, J49.2.1, J49.2.2.1⟩  -- k24
              · skip
                refine ⟨fun c39 => ?_, fun c39 => ?_⟩
                · skip
                  refine hj213 _ _ _ _ _ _ W49 ?_ ?_
                  · exact T49_0  -- t25
                  · exact ⟨rfl, rfl, J49.1, J49.2.1, J49.2.2.1⟩  -- k26
                · skip
                  refine ⟨fun c40 => ?_, fun c40 => ?_⟩
                  · skip
                    intro x41 hx41
                    intro x42 hx42
                    refine ⟨_, ?_, rfl, ?_⟩
                    · have t100 : (100 : Int32).toInt = 100 := rfl
                      rw [lei, t100] at c29
                      have e : x42.toInt = x49_14.toInt + 1 := by rw [hx42, add_i (by rw [t1i]; omega) (by rw [t1i]; omega), t1i]
                      rw [hn49]; omega
                    · have t100 : (100 : Int32).toInt = 100 := rfl
                      rw [lei, t100] at c29
                      have e : x42.toInt = x49_14.toInt + 1 := by rw [hx42, add_i (by rw [t1i]; omega) (by rw [t1i]; omega), t1i]
                      obtain ⟨k1, k2, k3, k4, k5⟩ := key c33 c34
                      rw [← hx35] at k2
                      rw [← hx36] at k3
                      rw [← hx41] at k4
                      rw [lg_cmp_gt, jlti, m64] at c37 c39
                      rw [lg_cmp_lt, jlti, n64] at c38
                      rw [lg_cmp_ge, jlei, n64] at c40
                      rw [← k2, ← k3, ← k4] at k5
                      exact ⟨rfl, rfl, by omega, k5 ⟨Bc, Bd, by omega, by omega⟩⟩
                  · skip
                    refine hj213 _ _ _ _ _ _ W49 ?_ ?_
                    · exact T49_0  -- t29
                    · exact ⟨rfl, rfl, J49.1, J49.2.1, J49.2.2.1⟩  -- k30
          · skip
            refine hj213 _ _ _ _ _ _ W49 ?_ ?_
            · exact T49_0  -- t31
            · exact ⟨rfl, rfl, J49.1, J49.2.1, J49.2.2.1⟩  -- k32
