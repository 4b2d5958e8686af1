set_option maxHeartbeats 1600000
/-! the class: Tape -/
def taI (κ : zS) (t : Nat) : Prop := (0 ≤ (zI κ taLength t).toInt ∧ (zI κ taLength t).toInt ≤ (zN κ (zR κ taBytes t)) ∧ 240 ≤ (zN κ (zR κ taBytes t)) ∧ (zN κ (zR κ taBytes t)) ≤ 20480) ∧ (0 ≤ (zI κ taTotal t).toInt ∧ (zI κ taTotal t).toInt ≤ (zN κ (zR κ taKinds t)) ∧ (zN κ (zR κ taPlaces t)) = (zN κ (zR κ taKinds t)) ∧ (zN κ (zR κ taLengths t)) = (zN κ (zR κ taKinds t)) ∧ 64 ≤ (zN κ (zR κ taKinds t)) ∧ (zN κ (zR κ taKinds t)) ≤ 20490)
/-- tokens lie on the tape -/
def tokI (κ : zS) (t : Nat) : Prop := ∀ i : Nat, i < (zN κ (zR κ taKinds t)) → 0 ≤ (zA κ (zR κ taPlaces t) i).toInt ∧ 0 ≤ (zA κ (zR κ taLengths t) i).toInt ∧ (zA κ (zR κ taPlaces t) i).toInt + (zA κ (zR κ taLengths t) i).toInt ≤ (zN κ (zR κ taBytes t))
theorem inc_i {x y : Int32} (h0 : 0 ≤ x.toInt) (h : x.toInt < y.toInt) : (x + 1).toInt = x.toInt + 1 := by
  have := ihi y
  rw [add_i (by rw [t1i]; omega) (by rw [t1i]; omega), t1i]
theorem Ta_byteAt_c {C : zC} {n0 : Nat} {a0 : Nat} {a1 : Int32} {κ : zS} {Q : Int32 → zS → Prop} (W : zW C n0 κ) (Ta0 : zT κ a0 = 13)  (hp : taI κ a0) (h : ∀ (v : Int32), (v = -1 ∨ (0 ≤ a1.toInt ∧ a1.toInt < (zI κ taLength a0).toInt)) → Q v κ) : zRun C 0 mTa_byteAt [.ref a0, .int a1] κ (oI Q noX) := by
  refine Ta_byteAt_run W Ta0 ?_
  replace W := W.lo (Nat.le_trans W.1.2.1 W.1.2.2) (Nat.le_refl (zn κ))
  unfold w_Ta_byteAt_0
  obtain ⟨⟨h0, h1, h2, h3⟩, -⟩ := hp
  have bN := W.n (ty_taBytes W Ta0)
  refine ⟨fun c1 => ?_, fun c1 => ?_⟩
  · skip
    refine h _ ?_
    · exact Or.inl rfl  -- q1
  · skip
    refine ⟨fun c2 => ?_, fun c2 => ?_⟩
    · skip
      refine h _ ?_
      · exact Or.inl rfl  -- q2
    · skip
      refine ⟨fun c3 => ?_, fun c3 => ?_⟩
      · skip
        refine h _ ?_
        · exact Or.inl rfl  -- q3
      · skip
        refine ⟨?_, ?_⟩
        · rw [lti, t0i] at c1
          rw [lei, ofn_i bN] at c3
          rw [inb_iff]; omega
        refine h _ ?_
        · right
          rw [lti, t0i] at c1
          rw [lei] at c2
          omega

theorem Ta_isDigit_c {C : zC} {n0 : Nat} {a0 : Int32} {κ : zS} {Q : Int32 → zS → Prop} (W : zW C n0 κ)   (h : ∀ (v : Int32), (nb v) → Q v κ) : zRun C 0 mTa_isDigit [.int a0] κ (oI Q noX) := by
  refine Ta_isDigit_run W  ?_
  replace W := W.lo (Nat.le_trans W.1.2.1 W.1.2.2) (Nat.le_refl (zn κ))
  unfold w_Ta_isDigit_0
  refine ⟨fun c1 => ?_, fun c1 => ?_⟩
  · skip
    refine h _ ?_
    · exact nb_0  -- q1
  · skip
    refine ⟨fun c2 => ?_, fun c2 => ?_⟩
    · skip
      refine h _ ?_
      · exact nb_0  -- q2
    · skip
      refine h _ ?_
      · exact nb_1  -- q3

theorem Ta_isLetter_c {C : zC} {n0 : Nat} {a0 : Int32} {κ : zS} {Q : Int32 → zS → Prop} (W : zW C n0 κ)   (h : ∀ (v : Int32), (nb v) → Q v κ) : zRun C 0 mTa_isLetter [.int a0] κ (oI Q noX) := by
  refine Ta_isLetter_run W  ?_
  replace W := W.lo (Nat.le_trans W.1.2.1 W.1.2.2) (Nat.le_refl (zn κ))
  unfold w_Ta_isLetter_0
  refine ⟨fun c1 => ?_, fun c1 => ?_⟩
  · skip
    unfold w_Ta_isLetter_12
    refine ⟨fun c2 => ?_, fun c2 => ?_⟩
    · skip
      unfold w_Ta_isLetter_24
      refine ⟨fun c3 => ?_, fun c3 => ?_⟩
      · skip
        refine h _ ?_
        · first | exact nb_0 | exact nb_1  -- q1
      · skip
        refine h _ ?_
        · first | exact nb_0 | exact nb_1  -- q2
    · skip
      refine ⟨fun c4 => ?_, fun c4 => ?_⟩
      · skip
        refine h _ ?_
        · first | exact nb_0 | exact nb_1  -- q3
      · skip
        unfold w_Ta_isLetter_24
        refine ⟨fun c5 => ?_, fun c5 => ?_⟩
        · skip
          refine h _ ?_
          · first | exact nb_0 | exact nb_1  -- q4
        · skip
          refine h _ ?_
          · first | exact nb_0 | exact nb_1  -- q5
  · skip
    refine ⟨fun c6 => ?_, fun c6 => ?_⟩
    · skip
      refine h _ ?_
      · first | exact nb_0 | exact nb_1  -- q6
    · skip
      unfold w_Ta_isLetter_12
      refine ⟨fun c7 => ?_, fun c7 => ?_⟩
      · skip
        unfold w_Ta_isLetter_24
        refine ⟨fun c8 => ?_, fun c8 => ?_⟩
        · skip
          refine h _ ?_
          · first | exact nb_0 | exact nb_1  -- q7
        · skip
          refine h _ ?_
          · first | exact nb_0 | exact nb_1  -- q8
      · skip
        refine ⟨fun c9 => ?_, fun c9 => ?_⟩
        · skip
          refine h _ ?_
          · first | exact nb_0 | exact nb_1  -- q9
        · skip
          unfold w_Ta_isLetter_24
          refine ⟨fun c10 => ?_, fun c10 => ?_⟩
          · skip
            refine h _ ?_
            · first | exact nb_0 | exact nb_1  -- q10
          · skip
            refine h _ ?_
            · first | exact nb_0 | exact nb_1  -- q11

theorem Ta_skipBlanks_c {C : zC} {n0 : Nat} {a0 : Nat} {a1 : Int32} {κ : zS} {Q : Int32 → zS → Prop} (W : zW C n0 κ) (Ta0 : zT κ a0 = 13)  (hp : taI κ a0 ∧ 0 ≤ a1.toInt ∧ a1.toInt ≤ (zI κ taLength a0).toInt) (h : ∀ (v : Int32), (a1.toInt ≤ v.toInt ∧ v.toInt ≤ (zI κ taLength a0).toInt) → Q v κ) : zRun C 1 mTa_skipBlanks [.ref a0, .int a1] κ (oI Q noX) := by
  refine Ta_skipBlanks_run W Ta0 ?_
  replace W := W.lo (Nat.le_trans W.1.2.1 W.1.2.2) (Nat.le_refl (zn κ))
  unfold w_Ta_skipBlanks_0
  obtain ⟨H, p0, p1⟩ := hp
  unfold w_Ta_skipBlanks_4
  refine ⟨fun n l0 l2 l3 τ => n = ((zI κ taLength a0).toInt - l3.toInt).toNat ∧ (κ = τ ∧ a0 = l0 ∧ a1.toInt ≤ l3.toInt ∧ l3.toInt ≤ (zI κ taLength a0).toInt), ⟨_, rfl, ?_⟩, ?_⟩
  · exact ⟨rfl, rfl, Int.le_refl _, p1⟩  -- j1
  rintro n4 _ x4_2 x4_3 _ W4 T4_0 ⟨hn4, rfl, rfl, i4⟩
  obtain ⟨m0, m1⟩ := i4
  refine ⟨fun c1 => ?_, fun c1 => ?_⟩
  · skip
    refine h _ ?_
    · exact ⟨by rw [lei] at c1; omega, Int.le_refl _⟩  -- q2
  · skip
    intro T2
    have d9 : x4_3.toInt < (zI κ taLength a0).toInt := by rw [lei] at c1; omega
    have e1 := inc_i (x := x4_3) (y := zI κ taLength a0) (by omega) d9
    refine Ta_byteAt_c W4 T2  ?_ (fun r3 q5 => ?_)
    · exact H  -- p3
    intro W6
    intro M7
    refine ⟨fun c8 => ?_, fun c8 => ?_⟩
    · skip
      refine ⟨fun c9 => ?_, fun c9 => ?_⟩
      · skip
        refine ⟨fun c10 => ?_, fun c10 => ?_⟩
        · skip
          intro x11 hx11
          refine ⟨_, ?_, rfl, ?_⟩
          · rw [hn4, hx11, e1]; omega  -- d4
          · exact ⟨rfl, rfl, by rw [hx11, e1]; omega, by rw [hx11, e1]; omega⟩  -- i5
        · skip
          refine ⟨fun c12 => ?_, fun c12 => ?_⟩
          · skip
            intro x13 hx13
            refine ⟨_, ?_, rfl, ?_⟩
            · rw [hn4, hx13, e1]; omega  -- d6
            · exact ⟨rfl, rfl, by rw [hx13, e1]; omega, by rw [hx13, e1]; omega⟩  -- i7
          · skip
            refine ⟨fun c14 => ?_, fun c14 => ?_⟩
            · skip
              intro x15 hx15
              refine ⟨_, ?_, rfl, ?_⟩
              · rw [hn4, hx15, e1]; omega  -- d8
              · exact ⟨rfl, rfl, by rw [hx15, e1]; omega, by rw [hx15, e1]; omega⟩  -- i9
            · skip
              refine ⟨fun c16 => ?_, fun c16 => ?_⟩
              · skip
                intro x17 hx17
                refine ⟨_, ?_, rfl, ?_⟩
                · rw [hn4, hx17, e1]; omega  -- d10
                · exact ⟨rfl, rfl, by rw [hx17, e1]; omega, by rw [hx17, e1]; omega⟩  -- i11
              · skip
                refine h _ ?_
                · exact ⟨m0, m1⟩  -- q12
      · skip
        intro x18 hx18
        refine ⟨_, ?_, rfl, ?_⟩
        · rw [hn4, hx18, e1]; omega  -- d13
        · exact ⟨rfl, rfl, by rw [hx18, e1]; omega, by rw [hx18, e1]; omega⟩  -- i14
    · skip
      intro x19 hx19
      refine ⟨_, ?_, rfl, ?_⟩
      · rw [hn4, hx19, e1]; omega  -- d15
      · exact ⟨rfl, rfl, by rw [hx19, e1]; omega, by rw [hx19, e1]; omega⟩  -- i16

theorem Ta_sizeAt_c {C : zC} {n0 : Nat} {a0 : Nat} {a1 : Int32} {κ : zS} {Q : Int32 → zS → Prop} (W : zW C n0 κ) (Ta0 : zT κ a0 = 13)  (hp : taI κ a0 ∧ 0 ≤ a1.toInt ∧ a1.toInt < (zI κ taLength a0).toInt) (h : ∀ (v : Int32), (1 ≤ v.toInt ∧ a1.toInt + v.toInt ≤ (zI κ taLength a0).toInt) → Q v κ) : zRun C 1 mTa_sizeAt [.ref a0, .int a1] κ (oI Q noX) := by
  refine Ta_sizeAt_run W Ta0 ?_
  replace W := W.lo (Nat.le_trans W.1.2.1 W.1.2.2) (Nat.le_refl (zn κ))
  unfold w_Ta_sizeAt_0
  obtain ⟨H, p0, p1⟩ := hp
  have B := H.1
  have e0 := inc_i (x := a1) (y := zI κ taLength a0) p0 p1
  have hj76 : ∀ (l0 : Nat) (l1 : Int32) (l3 : Int32) (τ : zS), zW C (zn κ) τ → zT τ l0 = 13 → (κ = τ ∧ a0 = l0 ∧ a1 = l1 ∧ True) → w_Ta_sizeAt_76 C (zn κ) Q  l0 l1 l3 τ := by
    rintro _ _ y76_3 _ W76 T76_0 ⟨rfl, rfl, rfl, j76⟩
    unfold w_Ta_sizeAt_76
    intro x1 hx1
    unfold w_Ta_sizeAt_81
    refine ⟨fun n l0 l1 l3 l4 τ => n = ((zI κ taLength a0).toInt - l4.toInt).toNat ∧ (κ = τ ∧ a0 = l0 ∧ a1 = l1 ∧ a1.toInt < l4.toInt ∧ l4.toInt ≤ (zI κ taLength a0).toInt), ⟨_, rfl, ?_⟩, ?_⟩
    · exact ⟨rfl, rfl, rfl, by rw [hx1, e0]; omega, by rw [hx1, e0]; omega⟩  -- j1
    rintro n81 _ _ x81_3 x81_4 _ W81 T81_0 ⟨hn81, rfl, rfl, rfl, i81⟩
    obtain ⟨m0, m1⟩ := i81
    have es : (x81_4 - a1).toInt = x81_4.toInt - a1.toInt := sub_i (by omega) (by omega)
    refine ⟨fun c2 => ?_, fun c2 => ?_⟩
    · skip
      refine h _ ?_
      · rw [es]; omega  -- q2
    · skip
      intro T3
      refine Ta_byteAt_c W81 T3  ?_ (fun r4 q6 => ?_)
      · exact H  -- p3
      intro W7
      intro M8
      refine Ta_isDigit_c W7   (fun r9 q11 => ?_)
      intro W12
      intro M13
      refine ⟨fun c14 => ?_, fun c14 => ?_⟩
      · skip
        intro x15 hx15
        refine ⟨_, ?_, rfl, ?_⟩
        · rw [lei] at c2
          have e1 := inc_i (x := x81_4) (y := zI κ taLength a0) (by omega) (by omega)
          rw [hn81, hx15, e1]; omega
        · rw [lei] at c2
          have e1 := inc_i (x := x81_4) (y := zI κ taLength a0) (by omega) (by omega)
          exact ⟨rfl, rfl, rfl, by rw [hx15, e1]; omega, by rw [hx15, e1]; omega⟩
      · skip
        refine ⟨fun c16 => ?_, fun c16 => ?_⟩
        · skip
          refine h _ ?_
          · rw [es]; omega  -- q6
        · skip
          intro T17
          refine Ta_byteAt_c W12 T17  ?_ (fun r18 q20 => ?_)
          · exact H  -- p7
          intro W21
          intro M22
          refine Ta_isLetter_c W21   (fun r23 q25 => ?_)
          intro W26
          intro M27
          refine ⟨fun c28 => ?_, fun c28 => ?_⟩
          · skip
            refine h _ ?_
            · rw [es]; omega  -- q8
          · skip
            intro x29 hx29
            refine ⟨_, ?_, rfl, ?_⟩
            · rw [lei] at c2
              have e1 := inc_i (x := x81_4) (y := zI κ taLength a0) (by omega) (by omega)
              rw [hn81, hx29, e1]; omega
            · rw [lei] at c2
              have e1 := inc_i (x := x81_4) (y := zI κ taLength a0) (by omega) (by omega)
              exact ⟨rfl, rfl, rfl, by rw [hx29, e1]; omega, by rw [hx29, e1]; omega⟩
  have hj51 : ∀ (l0 : Nat) (l1 : Int32) (s0 : Int32) (τ : zS), zW C (zn κ) τ → zT τ l0 = 13 → (κ = τ ∧ a0 = l0 ∧ a1 = l1 ∧ True) → w_Ta_sizeAt_51 C (zn κ) Q  l0 l1 s0 τ := by
    rintro _ _ y51_s0 _ W51 T51_0 ⟨rfl, rfl, rfl, j51⟩
    unfold w_Ta_sizeAt_51
    refine ⟨fun c30 => ?_, fun c30 => ?_⟩
    · skip
      refine h _ ?_
      · rw [t1i]; omega  -- q11
    · skip
      intro T31
      refine Ta_byteAt_c W51 T31  ?_ (fun r32 q34 => ?_)
      · exact H  -- p12
      intro W35
      intro M36
      refine ⟨fun c37 => ?_, fun c37 => ?_⟩
      · skip
        refine h _ ?_
        · rw [t1i]; omega  -- q13
      · skip
        refine h _ ?_
        · rcases q34 with z | z
          · rw [c37] at z; exact absurd z (by decide)
          · rw [e0] at z
            rw [t2i]; omega
  intro T38
  refine Ta_byteAt_c W T38  ?_ (fun r39 q41 => ?_)
  · exact H  -- p15
  intro W42
  intro M43
  refine Ta_isLetter_c W42   (fun r44 q46 => ?_)
  intro W47
  intro M48
  refine ⟨fun c49 => ?_, fun c49 => ?_⟩
  · skip
    refine hj76 _ _ _ _ W47 ?_ ?_
    · exact Ta0  -- t16
    · exact ⟨rfl, rfl, rfl, trivial⟩  -- k17
  · skip
    refine Ta_isDigit_c W47   (fun r50 q52 => ?_)
    intro W53
    intro M54
    refine ⟨fun c55 => ?_, fun c55 => ?_⟩
    · skip
      refine hj76 _ _ _ _ W53 ?_ ?_
      · exact Ta0  -- t18
      · exact ⟨rfl, rfl, rfl, trivial⟩  -- k19
    · skip
      refine ⟨fun c56 => ?_, fun c56 => ?_⟩
      · skip
        refine hj51 _ _ _ _ W53 ?_ ?_
        · exact Ta0  -- t20
        · exact ⟨rfl, rfl, rfl, trivial⟩  -- k21
      · skip
        refine ⟨fun c57 => ?_, fun c57 => ?_⟩
        · skip
          refine hj51 _ _ _ _ W53 ?_ ?_
          · exact Ta0  -- t22
          · exact ⟨rfl, rfl, rfl, trivial⟩  -- k23
        · skip
          refine ⟨fun c58 => ?_, fun c58 => ?_⟩
          · skip
            refine hj51 _ _ _ _ W53 ?_ ?_
            · exact Ta0  -- t24
            · exact ⟨rfl, rfl, rfl, trivial⟩  -- k25
          · skip
            refine ⟨fun c59 => ?_, fun c59 => ?_⟩
            · skip
              refine hj51 _ _ _ _ W53 ?_ ?_
              · exact Ta0  -- t26
              · exact ⟨rfl, rfl, rfl, trivial⟩  -- k27
            · skip
              refine hj51 _ _ _ _ W53 ?_ ?_
              · exact Ta0  -- t28
              · exact ⟨rfl, rfl, rfl, trivial⟩  -- k29

theorem Ta_numberAt_c {C : zC} {n0 : Nat} {a0 : Nat} {a1 : Int32} {κ : zS} {Q : Int32 → zS → Prop} (W : zW C n0 κ) (Ta0 : zT κ a0 = 13)  (hp : taI κ a0) (h : ∀ (v : Int32), (True) → Q v κ) : zRun C 1 mTa_numberAt [.ref a0, .int a1] κ (oI Q noX) := by
  refine Ta_numberAt_run W Ta0 ?_
  replace W := W.lo (Nat.le_trans W.1.2.1 W.1.2.2) (Nat.le_refl (zn κ))
  unfold w_Ta_numberAt_0
  have B := hp.2
  unfold w_Ta_numberAt_4
  refine ⟨fun n l0 l1 l2 l3 τ => n = ((zA κ (zR κ taLengths a0) a1.toNatClampNeg).toInt - l3.toInt).toNat ∧ (κ = τ ∧ a0 = l0 ∧ a1 = l1 ∧ 0 ≤ l3.toInt), ⟨_, rfl, ?_⟩, ?_⟩
  · exact ⟨rfl, rfl, rfl, by decide⟩  -- j1
  rintro n4 _ _ x4_2 x4_3 _ W4 T4_0 ⟨hn4, rfl, rfl, rfl, i4⟩
  refine ⟨fun c1 => ?_, fun c1 => ?_⟩
  · skip
    refine h _ ?_
    · trivial  -- q2
  · skip
    refine ⟨fun c2 => ?_, fun c2 => ?_⟩
    · skip
      refine h _ ?_
      · trivial  -- q3
    · skip
      refine ⟨?_, ?_⟩
      · rw [lti, t0i] at c1
        rw [lei] at c2
        rw [inb_iff]; omega
      refine ⟨fun c3 => ?_, fun c3 => ?_⟩
      · skip
        refine h _ ?_
        · trivial  -- q5
      · skip
        refine ⟨?_, ?_⟩
        · rw [lti, t0i] at c1
          rw [lei] at c2
          rw [inb_iff]; omega
        intro T4
        refine Ta_byteAt_c W4 T4  ?_ (fun r5 q7 => ?_)
        · exact hp  -- p7
        intro W8
        intro M9
        intro x10 hx10
        intro x11 hx11
        refine ⟨_, ?_, rfl, ?_⟩
        · rw [lei] at c3
          have e1 := inc_i (x := x4_3) i4 (Int.not_le.mp c3)
          rw [hn4, hx11, e1]; omega
        · rw [lei] at c3
          have e1 := inc_i (x := x4_3) i4 (Int.not_le.mp c3)
          exact ⟨rfl, rfl, rfl, by rw [hx11, e1]; omega⟩

theorem Ta_widen_c {C : zC} {n0 : Nat} {a0 : Nat} {a1 : Int32} {κ : zS} {Q : zS → Prop} (W : zW C n0 κ) (Ta0 : zT κ a0 = 13)  (hp : taI κ a0 ∧ 0 ≤ a1.toInt ∧ a1.toInt ≤ 10240) (h : ∀ (κ' : zS), (zF (oneF taBytes a0) κ κ' ∧ taI κ' a0 ∧ zI κ' = zI κ ∧ a1.toInt ≤ (zN κ' (zR κ' taBytes a0))) → Q κ') : zRun C 2 mTa_widen [.ref a0, .int a1] κ (oV Q noX) := by
  refine Ta_widen_run W Ta0 ?_
  replace W := W.lo (Nat.le_trans W.1.2.1 W.1.2.2) (Nat.le_refl (zn κ))
  unfold w_Ta_widen_0
  obtain ⟨H, p0, p1⟩ := hp
  have B := H.1
  have bN := W.n (ty_taBytes W Ta0)
  refine ⟨fun c1 => ?_, fun c1 => ?_⟩
  · skip
    refine h _ ?_
    · rw [lei, ofn_i bN] at c1
      exact ⟨zF.rf, H, rfl, c1⟩
  · skip
    intro T2
    have c9 : (zN κ (zR κ taBytes a0) : Int) < a1.toInt := by rw [lei, ofn_i bN] at c1; omega
    have e2 : (a1 * 2).toInt = a1.toInt * 2 := by rw [mul_i (by rw [t2i]; omega) (by rw [t2i]; omega), t2i]
    have kn := cnk (x := a1 * 2) (by omega)
    refine Ar_copyOfB_c W T2  ?_ (fun r3 κ_4 q5 => ?_)
    · exact ⟨⟨by rw [lei, t0i]; omega, by omega⟩, fun e => by
        have e9 := congrArg Int32.toInt e
        rw [ofn_i bN] at e9
        omega⟩
    intro W6
    intro M7
    intro T8
    refine ⟨?_, ?_⟩
    · rw [q5.1]; exact q5.2.2.1  -- b3
    intro κ_9 hκ_9
    intro W10
    refine h _ ?_
    · have h9 : κ_9 = uo κ_4 taBytes a0 (zn κ) := by rw [hκ_9, q5.1]
      obtain ⟨F9, u1, u2, u3, u4, u5, -⟩ := gr_f (f := taBytes) W (by decide +kernel) (by decide) Ta0 (by decide) q5.2 h9 (by omega) (by omega)
      refine ⟨F9, ?_, u1, ?_⟩
      · unfold taI
        rw [u1, u3, u4, u2 taKinds a0 (fun z => absurd z.1 (by decide)), u2 taPlaces a0 (fun z => absurd z.1 (by decide)), u2 taLengths a0 (fun z => absurd z.1 (by decide)), (u5 _ _ (ty_taKinds W Ta0)).1, (u5 _ _ (ty_taPlaces W Ta0)).1, (u5 _ _ (ty_taLengths W Ta0)).1]
        exact ⟨⟨H.1.1, by omega, by omega, by omega⟩, H.2⟩
      · rw [u3, u4]; omega

theorem Ta_addWord_c {C : zC} {n0 : Nat} {a0 : Nat} {a1 : Int32} {κ : zS} {Q : zS → Prop} (W : zW C n0 κ) (Ta0 : zT κ a0 = 13)  (hp : taI κ a0 ∧ (zI κ taLength a0).toInt + 4 ≤ (zN κ (zR κ taBytes a0))) (h : ∀ (κ' : zS), (zF (objF a0) κ κ' ∧ taI κ' a0 ∧ zR κ' = zR κ ∧ zN κ' = zN κ ∧ (zI κ' taLength a0).toInt = (zI κ taLength a0).toInt + 4 ∧ (∀ f, f ≠ taLength → zI κ' f a0 = zI κ f a0)) → Q κ') : zRun C 0 mTa_addWord [.ref a0, .int a1] κ (oV Q noX) := by
  refine Ta_addWord_run W Ta0 ?_
  replace W := W.lo (Nat.le_trans W.1.2.1 W.1.2.2) (Nat.le_refl (zn κ))
  unfold w_Ta_addWord_0
  obtain ⟨H, p0⟩ := hp
  have B := H.1
  have bN := W.n (ty_taBytes W Ta0)
  unfold w_Ta_addWord_3
  refine ⟨fun n l0 l1 l2 τ => n = (l2.toInt + 8).toNat ∧ (a0 = l0 ∧ a1 = l1 ∧ (-8 ≤ l2.toInt ∧ l2.toInt ≤ 24 ∧ l2.toInt % 8 = 0) ∧ zF (objF a0) κ τ ∧ zR τ = zR κ ∧ zN τ = zN κ ∧ (∀ f, f ≠ taLength → zI τ f a0 = zI κ f a0) ∧ (zI τ taLength a0).toInt * 8 = (zI κ taLength a0).toInt * 8 + (24 - l2.toInt)), ⟨_, rfl, ?_⟩, ?_⟩
  · exact ⟨rfl, rfl, by decide, zF.rf, rfl, rfl, fun _ _ => rfl, by show _ = _ + ((24 : Int) - 24); omega⟩  -- j1
  rintro n3 _ _ x3_2 κ3 W3 T3_0 ⟨hn3, rfl, rfl, i3⟩
  obtain ⟨⟨m0, m1, m2⟩, F, mR, mN, mI, ml⟩ := i3
  refine ⟨fun c1 => ?_, fun c1 => ?_⟩
  · skip
    refine h _ ?_
    · rw [lti, t0i] at c1
      have e : (zI κ3 taLength a0).toInt = (zI κ taLength a0).toInt + 4 := by omega
      refine ⟨F, ?_, mR, mN, e, mI⟩
      unfold taI
      rw [mR, mN, e, mI taTotal (by decide)]
      exact ⟨⟨by omega, by omega, H.1.2.2⟩, H.2⟩
  · skip
    refine ⟨fun c2 => ?_, fun c2 => ?_⟩
    · skip
      refine h _ ?_
      · exfalso
        rw [lti, t0i] at c1
        rw [mR, mN, lei, ofn_i bN] at c2
        omega
    · skip
      refine ⟨?_, ?_⟩
      · rw [lti, t0i] at c1
        rw [mR, mN, lei, ofn_i bN] at c2
        rw [mR, mN, inb_iff]
        omega
      intro κ_3 hκ_3
      intro W4
      intro κ_5 hκ_5
      intro W6
      intro x7 hx7
      rw [lti, t0i] at c1
      have f8 : (-8 : Int32).toInt = -8 := rfl
      have e7 : x7.toInt = x3_2.toInt - 8 := by rw [hx7, add_i (by rw [f8]; omega) (by rw [f8]; omega), f8]; omega
      refine ⟨_, ?_, rfl, ?_⟩
      · rw [hn3, e7]; omega  -- d5
      · have f1 : zF (objF a0) κ3 κ_3 := by rw [hκ_3]; exact zF_ua (by rw [ow_taBytes W3 T3_0])
        have f2 : zF (objF a0) κ_3 κ_5 := by rw [hκ_5]; exact zF_ui rfl
        have i3 : zI κ_3 = zI κ3 := by rw [hκ_3]; rfl
        have is : zI κ_5 taLength a0 = zI κ3 taLength a0 + 1 := by
          rw [hκ_5]
          refine (if_pos ⟨rfl, rfl⟩).trans ?_
          rw [i3]
        have ts : (zI κ_5 taLength a0).toInt = (zI κ3 taLength a0).toInt + 1 := by rw [is, add_i (by rw [t1i]; omega) (by rw [t1i]; omega), t1i]
        refine ⟨rfl, rfl, ⟨by omega, by omega, by omega⟩, (F.tr f1).tr f2, by rw [hκ_5, hκ_3]; exact mR, by rw [hκ_5, hκ_3]; exact mN, fun f hf => ?_, by rw [ts]; omega⟩
        rw [hκ_5]
        exact (if_neg (fun z => hf z.1)).trans ((congrFun (congrFun i3 f) a0).trans (mI f hf))
