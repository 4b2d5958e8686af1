set_option maxHeartbeats 1600000
/-! the class: Tape's findName -/
theorem Ta_findName_c {C : zC} {n0 : Nat} {a0 : Nat} {a1 : Nat} {a2 : Int32} {a3 : Int32} {κ : zS} {Q : Int32 → zS → Prop} (W : zW C n0 κ) (Ta0 : zT κ a0 = 13) (Ta1 : zT κ a1 = 20)  (hp : taI κ a0 ∧ tokI κ a0) (h : ∀ (v : Int32), (-1 ≤ v.toInt ∧ v.toInt < zN κ a1 ∧ (v.toInt < a2.toInt ∨ v = -1)) → Q v κ) : zRun C 0 mTa_findName [.ref a0, .ref a1, .int a2, .int a3] κ (oI Q noX) := by
  refine Ta_findName_run W Ta0 Ta1 ?_
  replace W := W.lo (Nat.le_trans W.1.2.1 W.1.2.2) (Nat.le_refl (zn κ))
  unfold w_Ta_findName_0
  obtain ⟨H, K⟩ := hp
  have nN := W.n Ta1
  have B := H.1
  have B2 := H.2
  have hj39 : ∀ (l0 : Nat) (l1 : Nat) (l2 : Int32) (l4 : Int32) (s0 : Int32) (τ : zS), zW C (zn κ) τ → zT τ l0 = 13 → zT τ l1 = 20 → (κ = τ ∧ a0 = l0 ∧ a1 = l1 ∧ a2 = l2 ∧ (0 < l4.toInt → 0 ≤ s0.toInt ∧ s0.toInt + l4.toInt ≤ (zN κ (zR κ taBytes a0)))) → w_Ta_findName_39 C (zn κ) Q  l0 l1 l2 l4 s0 τ := by
    rintro _ _ _ y39_4 y39_s0 _ W39 T39_0 T39_1 ⟨rfl, rfl, rfl, rfl, j39⟩
    unfold w_Ta_findName_39
    unfold w_Ta_findName_44
    refine ⟨fun n l0 l1 l2 l4 l5 l6 τ => n = ((zN κ a1 : Int) - l6.toInt).toNat ∧ (κ = τ ∧ a0 = l0 ∧ a1 = l1 ∧ a2 = l2 ∧ 0 ≤ l6.toInt ∧ (0 < l4.toInt → 0 ≤ l5.toInt ∧ l5.toInt + l4.toInt ≤ (zN κ (zR κ taBytes a0)))), ⟨_, rfl, ?_⟩, ?_⟩
    · exact ⟨rfl, rfl, rfl, rfl, by decide, j39⟩  -- j1
    rintro n44 _ _ _ x44_4 x44_5 x44_6 _ W44 T44_0 T44_1 ⟨hn44, rfl, rfl, rfl, rfl, i44⟩
    obtain ⟨m0, m1⟩ := i44
    have hj145 : ∀ (l0 : Nat) (l1 : Nat) (l2 : Int32) (l4 : Int32) (l5 : Int32) (l6 : Int32) (l9 : Int32) (τ : zS), zW C (zn κ) τ → zT τ l0 = 13 → zT τ l1 = 20 → (κ = τ ∧ a0 = l0 ∧ a1 = l1 ∧ a2 = l2 ∧ (l6 = x44_6 ∧ 0 ≤ l6.toInt ∧ l6.toInt < zN κ a1 ∧ l6.toInt < a2.toInt) ∧ (0 < l4.toInt → 0 ≤ l5.toInt ∧ l5.toInt + l4.toInt ≤ (zN κ (zR κ taBytes a0)))) → w_Ta_findName_145 C (zn κ) Q (fun (l0' : Nat) (l1' : Nat) (l2' : Int32) (l4' : Int32) (l5' : Int32) (l6' : Int32) (τ : zS) => ∃ k < n44, (fun (n : Nat) (l0 : Nat) (l1 : Nat) (l2 : Int32) (l4 : Int32) (l5 : Int32) (l6 : Int32) (τ : zS) => n = ((zN κ a1 : Int) - l6.toInt).toNat ∧ (κ = τ ∧ a0 = l0 ∧ a1 = l1 ∧ a2 = l2 ∧ 0 ≤ l6.toInt ∧ (0 < l4.toInt → 0 ≤ l5.toInt ∧ l5.toInt + l4.toInt ≤ (zN κ (zR κ taBytes a0))))) k l0' l1' l2' l4' l5' l6' τ) l0 l1 l2 l4 l5 l6 l9 τ := by
      rintro _ _ _ y145_4 y145_5 y145_6 y145_9 _ W145 T145_0 T145_1 ⟨rfl, rfl, rfl, rfl, j145⟩
      unfold w_Ta_findName_145
      obtain ⟨⟨u0, u1, u2, u3⟩, us⟩ := j145
      have e1 := inc_i (x := y145_6) (y := a2) u1 u3
      refine ⟨fun c1 => ?_, fun c1 => ?_⟩
      · skip
        intro x2 hx2
        refine ⟨_, ?_, rfl, ?_⟩
        · rw [hn44, hx2, e1, ← u0]; omega  -- d2
        · exact ⟨rfl, rfl, rfl, rfl, by rw [hx2, e1]; omega, us⟩  -- i3
      · skip
        refine ⟨fun c3 => ?_, fun c3 => ?_⟩
        · skip
          intro x4 hx4
          refine ⟨_, ?_, rfl, ?_⟩
          · rw [hn44, hx4, e1, ← u0]; omega  -- d4
          · exact ⟨rfl, rfl, rfl, rfl, by rw [hx4, e1]; omega, us⟩  -- i5
        · skip
          refine h _ ?_
          · exact ⟨by omega, u2, Or.inl u3⟩  -- q6
    have hj83 : ∀ (l0 : Nat) (l1 : Nat) (l2 : Int32) (l4 : Int32) (l5 : Int32) (l6 : Int32) (s0 : Int32) (τ : zS), zW C (zn κ) τ → zT τ l0 = 13 → zT τ l1 = 20 → (κ = τ ∧ a0 = l0 ∧ a1 = l1 ∧ a2 = l2 ∧ (0 ≤ s0.toInt ∧ s0.toInt < (zN κ (zR κ taKinds a0))) ∧ (l6 = x44_6 ∧ 0 ≤ l6.toInt ∧ l6.toInt < zN κ a1 ∧ l6.toInt < a2.toInt) ∧ (0 < l4.toInt → 0 ≤ l5.toInt ∧ l5.toInt + l4.toInt ≤ (zN κ (zR κ taBytes a0)))) → w_Ta_findName_83 C (zn κ) Q (fun (l0' : Nat) (l1' : Nat) (l2' : Int32) (l4' : Int32) (l5' : Int32) (l6' : Int32) (τ : zS) => ∃ k < n44, (fun (n : Nat) (l0 : Nat) (l1 : Nat) (l2 : Int32) (l4 : Int32) (l5 : Int32) (l6 : Int32) (τ : zS) => n = ((zN κ a1 : Int) - l6.toInt).toNat ∧ (κ = τ ∧ a0 = l0 ∧ a1 = l1 ∧ a2 = l2 ∧ 0 ≤ l6.toInt ∧ (0 < l4.toInt → 0 ≤ l5.toInt ∧ l5.toInt + l4.toInt ≤ (zN κ (zR κ taBytes a0))))) k l0' l1' l2' l4' l5' l6' τ) l0 l1 l2 l4 l5 l6 s0 τ := by
      rintro _ _ _ y83_4 y83_5 y83_6 y83_s0 _ W83 T83_0 T83_1 ⟨rfl, rfl, rfl, rfl, j83⟩
      unfold w_Ta_findName_83
      obtain ⟨⟨w0, w1⟩, wu, ws⟩ := j83
      refine ⟨?_, ?_⟩
      · rw [inb_iff]; omega  -- b7
      intro x5 hx5
      unfold w_Ta_findName_97
      refine ⟨fun n l0 l1 l2 l4 l5 l6 l7 l8 l9 τ => n = (l4.toInt - l9.toInt).toNat ∧ (κ = τ ∧ a0 = l0 ∧ a1 = l1 ∧ a2 = l2 ∧ 0 ≤ l9.toInt ∧ (0 ≤ l7.toInt ∧ l7.toInt < (zN κ (zR κ taKinds a0)) ∧ l8.toInt = (zA κ (zR κ taPlaces a0) l7.toNatClampNeg).toInt) ∧ (l6 = x44_6 ∧ 0 ≤ l6.toInt ∧ l6.toInt < zN κ a1 ∧ l6.toInt < a2.toInt) ∧ (0 < l4.toInt → 0 ≤ l5.toInt ∧ l5.toInt + l4.toInt ≤ (zN κ (zR κ taBytes a0)))), ⟨_, rfl, ?_⟩, ?_⟩
      · exact ⟨rfl, rfl, rfl, rfl, by decide, ⟨w0, w1, by rw [hx5]⟩, wu, ws⟩  -- j8
      rintro n97 _ _ _ x97_4 x97_5 x97_6 x97_7 x97_8 x97_9 _ W97 T97_0 T97_1 ⟨hn97, rfl, rfl, rfl, rfl, i97⟩
      obtain ⟨o0, ⟨o1, o2, o3⟩, ou, os⟩ := i97
      refine ⟨fun c6 => ?_, fun c6 => ?_⟩
      · skip
        refine hj145 _ _ _ _ _ _ _ _ W97 ?_ ?_ ?_
        · first | exact Ta0 | exact Ta1  -- t9
        · first | exact Ta0 | exact Ta1  -- t10
        · exact ⟨rfl, rfl, rfl, rfl, ou, os⟩  -- k11
      · skip
        refine ⟨?_, ?_⟩
        · rw [inb_iff]; omega  -- b12
        refine ⟨fun c7 => ?_, fun c7 => ?_⟩
        · skip
          refine hj145 _ _ _ _ _ _ _ _ W97 ?_ ?_ ?_
          · first | exact Ta0 | exact Ta1  -- t13
          · first | exact Ta0 | exact Ta1  -- t14
          · exact ⟨rfl, rfl, rfl, rfl, ou, os⟩  -- k15
        · skip
          have d6 : x97_9.toInt < x97_4.toInt := by rw [lei] at c6; omega
          have k7 := cnk o1
          have g := K x97_7.toNatClampNeg (by omega)
          have e7 : (zA κ (zR κ taLengths a0) x97_7.toNatClampNeg).toInt = x97_4.toInt := congrArg Int32.toInt c7
          have s9 := os (by omega)
          refine ⟨?_, ?_⟩
          · have e : (x97_5 + x97_9).toInt = x97_5.toInt + x97_9.toInt := add_i (by omega) (by omega)
            rw [inb_iff, e]; omega
          refine ⟨?_, ?_⟩
          · have e : (x97_8 + x97_9).toInt = x97_8.toInt + x97_9.toInt := add_i (by omega) (by omega)
            rw [inb_iff, e]; omega
          refine ⟨fun c8 => ?_, fun c8 => ?_⟩
          · skip
            refine hj145 _ _ _ _ _ _ _ _ W97 ?_ ?_ ?_
            · first | exact Ta0 | exact Ta1  -- t18
            · first | exact Ta0 | exact Ta1  -- t19
            · exact ⟨rfl, rfl, rfl, rfl, ou, os⟩  -- k20
          · skip
            intro x9 hx9
            refine ⟨_, ?_, rfl, ?_⟩
            · have e1 := inc_i (x := x97_9) (y := x97_4) o0 d6
              rw [hn97, hx9, e1]; omega
            · have e1 := inc_i (x := x97_9) (y := x97_4) o0 d6
              exact ⟨rfl, rfl, rfl, rfl, by rw [hx9, e1]; omega, ⟨o1, o2, o3⟩, ou, os⟩
    refine ⟨fun c10 => ?_, fun c10 => ?_⟩
    · skip
      refine h _ ?_
      · exact ⟨by decide, by rw [tmi]; omega, Or.inr rfl⟩  -- q23
    · skip
      refine ⟨fun c11 => ?_, fun c11 => ?_⟩
      · skip
        refine h _ ?_
        · exact ⟨by decide, by rw [tmi]; omega, Or.inr rfl⟩  -- q24
      · skip
        have d10 : x44_6.toInt < a2.toInt := by rw [lei] at c10; omega
        have d11 : x44_6.toInt < zN κ a1 := by rw [lei, ofn_i nN] at c11; omega
        refine ⟨?_, ?_⟩
        · rw [inb_iff]; omega  -- b25
        refine ⟨fun c12 => ?_, fun c12 => ?_⟩
        · skip
          refine hj83 _ _ _ _ _ _ _ _ W44 ?_ ?_ ?_
          · first | exact Ta0 | exact Ta1  -- t26
          · first | exact Ta0 | exact Ta1  -- t27
          · exact ⟨rfl, rfl, rfl, rfl, ⟨by decide, by rw [t0i]; omega⟩, ⟨rfl, m0, d11, d10⟩, m1⟩  -- k28
        · skip
          refine ⟨?_, ?_⟩
          · rw [inb_iff]; omega  -- b29
          refine ⟨fun c13 => ?_, fun c13 => ?_⟩
          · skip
            refine hj83 _ _ _ _ _ _ _ _ W44 ?_ ?_ ?_
            · first | exact Ta0 | exact Ta1  -- t30
            · first | exact Ta0 | exact Ta1  -- t31
            · exact ⟨rfl, rfl, rfl, rfl, ⟨by decide, by rw [t0i]; omega⟩, ⟨rfl, m0, d11, d10⟩, m1⟩  -- k32
          · skip
            refine ⟨?_, ?_⟩
            · rw [inb_iff]; omega  -- b33
            refine hj83 _ _ _ _ _ _ _ _ W44 ?_ ?_ ?_
            · first | exact Ta0 | exact Ta1  -- t34
            · first | exact Ta0 | exact Ta1  -- t35
            · rw [lti, t0i] at c12
              rw [lei] at c13
              exact ⟨rfl, rfl, rfl, rfl, ⟨by omega, by omega⟩, ⟨rfl, m0, d11, d10⟩, m1⟩
  have hj22 : ∀ (l0 : Nat) (l1 : Nat) (l2 : Int32) (l3 : Int32) (s0 : Int32) (τ : zS), zW C (zn κ) τ → zT τ l0 = 13 → zT τ l1 = 20 → (κ = τ ∧ a0 = l0 ∧ a1 = l1 ∧ a2 = l2 ∧ a3 = l3 ∧ (0 < s0.toInt → 0 ≤ a3.toInt ∧ a3.toInt < (zI κ taTotal a0).toInt ∧ s0.toInt = (zA κ (zR κ taLengths a0) a3.toNatClampNeg).toInt)) → w_Ta_findName_22 C (zn κ) Q  l0 l1 l2 l3 s0 τ := by
    rintro _ _ _ _ y22_s0 _ W22 T22_0 T22_1 ⟨rfl, rfl, rfl, rfl, rfl, j22⟩
    unfold w_Ta_findName_22
    refine ⟨fun c14 => ?_, fun c14 => ?_⟩
    · skip
      refine hj39 _ _ _ _ _ _ W22 ?_ ?_ ?_
      · first | exact Ta0 | exact Ta1  -- t37
      · first | exact Ta0 | exact Ta1  -- t38
      · rw [lei, t0i] at c14
        exact ⟨rfl, rfl, rfl, rfl, fun z => by omega⟩
    · skip
      have j9 := fun z => j22 z
      refine ⟨?_, ?_⟩
      · rw [lei, t0i] at c14
        have z := j22 (by omega)
        rw [inb_iff]; omega
      refine hj39 _ _ _ _ _ _ W22 ?_ ?_ ?_
      · first | exact Ta0 | exact Ta1  -- t41
      · first | exact Ta0 | exact Ta1  -- t42
      · rw [lei, t0i] at c14
        have z := j22 (by omega)
        have k3 := cnk z.1
        have g := K a3.toNatClampNeg (by omega)
        exact ⟨rfl, rfl, rfl, rfl, fun _ => ⟨g.1, by omega⟩⟩
  refine ⟨fun c15 => ?_, fun c15 => ?_⟩
  · skip
    refine hj22 _ _ _ _ _ _ W ?_ ?_ ?_
    · first | exact Ta0 | exact Ta1  -- t44
    · first | exact Ta0 | exact Ta1  -- t45
    · exact ⟨rfl, rfl, rfl, rfl, rfl, fun z => absurd z (by decide)⟩  -- k46
  · skip
    refine ⟨fun c16 => ?_, fun c16 => ?_⟩
    · skip
      refine hj22 _ _ _ _ _ _ W ?_ ?_ ?_
      · first | exact Ta0 | exact Ta1  -- t47
      · first | exact Ta0 | exact Ta1  -- t48
      · exact ⟨rfl, rfl, rfl, rfl, rfl, fun z => absurd z (by decide)⟩  -- k49
    · skip
      refine ⟨?_, ?_⟩
      · rw [lti, t0i] at c15
        rw [lei] at c16
        rw [inb_iff]; omega
      refine hj22 _ _ _ _ _ _ W ?_ ?_ ?_
      · first | exact Ta0 | exact Ta1  -- t51
      · first | exact Ta0 | exact Ta1  -- t52
      · rw [lti, t0i] at c15
        rw [lei] at c16
        exact ⟨rfl, rfl, rfl, rfl, rfl, fun _ => ⟨by omega, by omega, rfl⟩⟩
