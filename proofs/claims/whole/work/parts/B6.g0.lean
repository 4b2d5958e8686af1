section
set_option maxHeartbeats 1600000
/-! the class: Tape -/
def taI (κ : zS) (t : Nat) : Prop := (0 ≤ (zI κ taLength t).toInt ∧ (zI κ taLength t).toInt ≤ (zN κ (zR κ taBytes t)) ∧ 240 ≤ (zN κ (zR κ taBytes t)) ∧ (zN κ (zR κ taBytes t)) ≤ 20480) ∧ (0 ≤ (zI κ taTotal t).toInt ∧ (zI κ taTotal t).toInt ≤ (zN κ (zR κ taKinds t)) ∧ (zN κ (zR κ taPlaces t)) = (zN κ (zR κ taKinds t)) ∧ (zN κ (zR κ taLengths t)) = (zN κ (zR κ taKinds t)) ∧ 64 ≤ (zN κ (zR κ taKinds t)) ∧ (zN κ (zR κ taKinds t)) ≤ 20490)
/-- tokens lie on the tape -/
def tokI (κ : zS) (t : Nat) : Prop := ∀ i : Nat, i < (zN κ (zR κ taKinds t)) → 0 ≤ (zA κ (zR κ taPlaces t) i).toInt ∧ 0 ≤ (zA κ (zR κ taLengths t) i).toInt ∧ (zA κ (zR κ taPlaces t) i).toInt + (zA κ (zR κ taLengths t) i).toInt ≤ (zN κ (zR κ taBytes t))
theorem inc_i {x y : Int32} (h0 : 0 ≤ x.toInt) (h : x.toInt < y.toInt) : (x + 1).toInt = x.toInt + 1 := by
  have := ihi y
  rw [add_i (by rw [t1i]; omega) (by rw [t1i]; omega), t1i]
theorem Ta_byteAt_c {C : zC} {n0 : Nat} {a0 : Nat} {a1 : Int32} {κ : zS} {Q : Int32 → zS → Prop} (W : zW C n0 κ) (Ta0 : zT κ a0 = 13)  (hp : taI κ a0) (h : ∀ (v : Int32), (v = -1 ∨ (0 ≤ a1.toInt ∧ a1.toInt < (zI κ taLength a0).toInt)) → Q v κ) : zRun C 0 mTa_byteAt [.ref a0, .int a1] κ (oI Q noX) := by
  refine Ta_byteAt_run W Ta0 ?_
  replace W := W.lo (Nat.le_trans W.1.2.1 W.1.2.2) (Nat.le_refl (zn κ))
  unfold w_Ta_byteAt_0
  obtain ⟨⟨h0, h1, h2, h3⟩, -⟩ := hp
  have bN := W.n (ty_taBytes W Ta0)
  refine ⟨fun c1 => ?_, fun c1 => ?_⟩
  · skip
    refine h _ ?_
    · exact Or.inl rfl  -- q1
  · skip
    refine ⟨fun c2 => ?_, fun c2 => ?_⟩
    · skip
      refine h _ ?_
      · exact Or.inl rfl  -- q2
    · skip
      refine ⟨fun c3 => ?_, fun c3 => ?_⟩
      · skip
        refine h _ ?_
        · exact Or.inl rfl  -- q3
      · skip
        refine ⟨?_, ?_⟩
        · rw [lti, t0i] at c1
          rw [lei, ofn_i bN] at c3
          rw [inb_iff]; omega
        refine h _ ?_
        · right
          rw [lti, t0i] at c1
          rw [lei] at c2
          omega

theorem Ta_isDigit_c {C : zC} {n0 : Nat} {a0 : Int32} {κ : zS} {Q : Int32 → zS → Prop} (W : zW C n0 κ)   (h : ∀ (v : Int32), (nb v) → Q v κ) : zRun C 0 mTa_isDigit [.int a0] κ (oI Q noX) := by
  refine Ta_isDigit_run W  ?_
  replace W := W.lo (Nat.le_trans W.1.2.1 W.1.2.2) (Nat.le_refl (zn κ))
  unfold w_Ta_isDigit_0
  refine ⟨fun c1 => ?_, fun c1 => ?_⟩
  · skip
    refine h _ ?_
    · exact nb_0  -- q1
  · skip
    refine ⟨fun c2 => ?_, fun c2 => ?_⟩
    · skip
      refine h _ ?_
      · exact nb_0  -- q2
    · skip
      refine h _ ?_
      · exact nb_1  -- q3

theorem Ta_isLetter_c {C : zC} {n0 : Nat} {a0 : Int32} {κ : zS} {Q : Int32 → zS → Prop} (W : zW C n0 κ)   (h : ∀ (v : Int32), (nb v) → Q v κ) : zRun C 0 mTa_isLetter [.int a0] κ (oI Q noX) := by
  refine Ta_isLetter_run W  ?_
  replace W := W.lo (Nat.le_trans W.1.2.1 W.1.2.2) (Nat.le_refl (zn κ))
  unfold w_Ta_isLetter_0
  refine ⟨fun c1 => ?_, fun c1 => ?_⟩
  · skip
    unfold w_Ta_isLetter_12
    refine ⟨fun c2 => ?_, fun c2 => ?_⟩
    · skip
      unfold w_Ta_isLetter_24
      refine ⟨fun c3 => ?_, fun c3 => ?_⟩
      · skip
        refine h _ ?_
        · first | exact nb_0 | exact nb_1  -- q1
      · skip
        refine h _ ?_
        · first | exact nb_0 | exact nb_1  -- q2
    · skip
      refine ⟨fun c4 => ?_, fun c4 => ?_⟩
      · skip
        refine h _ ?_
        · first | exact nb_0 | exact nb_1  -- q3
      · skip
        unfold w_Ta_isLetter_24
        refine ⟨fun c5 => ?_, fun c5 => ?_⟩
        · skip
          refine h _ ?_
          · first | exact nb_0 | exact nb_1  -- q4
        · skip
          refine h _ ?_
          · first | exact nb_0 | exact nb_1  -- q5
  · skip
    refine ⟨fun c6 => ?_, fun c6 => ?_⟩
    · skip
      refine h _ ?_
      · first | exact nb_0 | exact nb_1  -- q6
    · skip
      unfold w_Ta_isLetter_12
      refine ⟨fun c7 => ?_, fun c7 => ?_⟩
      · skip
        unfold w_Ta_isLetter_24
        refine ⟨fun c8 => ?_, fun c8 => ?_⟩
        · skip
          refine h _ ?_
          · first | exact nb_0 | exact nb_1  -- q7
        · skip
          refine h _ ?_
          · first | exact nb_0 | exact nb_1  -- q8
      · skip
        refine ⟨fun c9 => ?_, fun c9 => ?_⟩
        · skip
          refine h _ ?_
          · first | exact nb_0 | exact nb_1  -- q9
        · skip
          unfold w_Ta_isLetter_24
          refine ⟨fun c10 => ?_, fun c10 => ?_⟩
          · skip
            refine h _ ?_
            · first | exact nb_0 | exact nb_1  -- q10
          · skip
            refine h _ ?_
            · first | exact nb_0 | exact nb_1  -- q11

theorem Ta_skipBlanks_c {C : zC} {n0 : Nat} {a0 : Nat} {a1 : Int32} {κ : zS} {Q : Int32 → zS → Prop} (W : zW C n0 κ) (Ta0 : zT κ a0 = 13)  (hp : taI κ a0 ∧ 0 ≤ a1.toInt ∧ a1.toInt ≤ (zI κ taLength a0).toInt) (h : ∀ (v : Int32), (a1.toInt ≤ v.toInt ∧ v.toInt ≤ (zI κ taLength a0).toInt) → Q v κ) : zRun C 1 mTa_skipBlanks [.ref a0, .int a1] κ (oI Q noX) := by
  refine Ta_skipBlanks_run W Ta0 ?_
  replace W := W.lo (Nat.le_trans W.1.2.1 W.1.2.2) (Nat.le_refl (zn κ))
  unfold w_Ta_skipBlanks_0
  obtain ⟨H, p0, p1⟩ := hp
  unfold w_Ta_skipBlanks_4
  refine ⟨fun n l0 l2 l3 τ => n = ((zI κ taLength a0).toInt - l3.toInt).toNat ∧ (κ = τ ∧ a0 = l0 ∧ a1.toInt ≤ l3.toInt ∧ l3.toInt ≤ (zI κ taLength a0).toInt), ⟨_, rfl, ?_⟩, ?_⟩
  · exact ⟨rfl, rfl, Int.le_refl _, p1⟩  -- j1
  rintro n4 _ x4_2 x4_3 _ W4 T4_0 ⟨hn4, rfl, rfl, i4⟩
  obtain ⟨m0, m1⟩ := i4
  refine ⟨fun c1 => ?_, fun c1 => ?_⟩
  · skip
    refine h _ ?_
    · exact ⟨by rw [lei] at c1; omega, Int.le_refl _⟩  -- q2
  · skip
    intro T2
    have d9 : x4_3.toInt < (zI κ taLength a0).toInt := by rw [lei] at c1; omega
    have e1 := inc_i (x := x4_3) (y := zI κ taLength a0) (by omega) d9
    refine Ta_byteAt_c W4 T2  ?_ (fun r3 q5 => ?_)
    · exact H  -- p3
    intro W6
    intro M7
    refine ⟨fun c8 => ?_, fun c8 => ?_⟩
    · skip
      refine ⟨fun c9 => ?_, fun c9 => ?_⟩
      · skip
        refine ⟨fun c10 => ?_, fun c10 => ?_⟩
        · skip
          intro x11 hx11
          refine ⟨_, ?_, rfl, ?_⟩
          · rw [hn4, hx11, e1]; omega  -- d4
          · exact ⟨rfl, rfl, by rw [hx11, e1]; omega, by rw [hx11, e1]; omega⟩  -- i5
        · skip
          refine ⟨fun c12 => ?_, fun c12 => ?_⟩
          · skip
            intro x13 hx13
            refine ⟨_, ?_, rfl, ?_⟩
            · rw [hn4, hx13, e1]; omega  -- d6
            · exact ⟨rfl, rfl, by rw [hx13, e1]; omega, by rw [hx13, e1]; omega⟩  -- i7
          · skip
            refine ⟨fun c14 => ?_, fun c14 => ?_⟩
            · skip
              intro x15 hx15
              refine ⟨_, ?_, rfl, ?_⟩
              · rw [hn4, hx15, e1]; omega  -- d8
              · exact ⟨rfl, rfl, by rw [hx15, e1]; omega, by rw [hx15, e1]; omega⟩  -- i9
            · skip
              refine ⟨fun c16 => ?_, fun c16 => ?_⟩
              · skip
                intro x17 hx17
                refine ⟨_, ?_, rfl, ?_⟩
                · rw [hn4, hx17, e1]; omega  -- d10
                · exact ⟨rfl, rfl, by rw [hx17, e1]; omega, by rw [hx17, e1]; omega⟩  -- i11
              · skip
                refine h _ ?_
                · exact ⟨m0, m1⟩  -- q12
      · skip
        intro x18 hx18
        refine ⟨_, ?_, rfl, ?_⟩
        · rw [hn4, hx18, e1]; omega  -- d13
        · exact ⟨rfl, rfl, by rw [hx18, e1]; omega, by rw [hx18, e1]; omega⟩  -- i14
    · skip
      intro x19 hx19
      refine ⟨_, ?_, rfl, ?_⟩
      · rw [hn4, hx19, e1]; omega  -- d15
      · exact ⟨rfl, rfl, by rw [hx19, e1]; omega, by rw [hx19, e1]; omega⟩  -- i16

theorem Ta_sizeAt_c {C : zC} {n0 : Nat} {a0 : Nat} {a1 : Int32} {κ : zS} {Q : Int32 → zS → Prop} (W : zW C n0 κ) (Ta0 : zT κ a0 = 13)  (hp : taI κ a0 ∧ 0 ≤ a1.toInt ∧ a1.toInt < (zI κ taLength a0).toInt) (h : ∀ (v : Int32), (1 ≤ v.toInt ∧ a1.toInt + v.toInt ≤ (zI κ taLength a0).toInt) → Q v κ) : zRun C 1 mTa_sizeAt [.ref a0, .int a1] κ (oI Q noX) := by
  refine Ta_sizeAt_run W Ta0 ?_
  replace W := W.lo (Nat.le_trans W.1.2.1 W.1.2.2) (Nat.le_refl (zn κ))
  unfold w_Ta_sizeAt_0
  obtain ⟨H, p0, p1⟩ := hp
  have B := H.1
  have e0 := inc_i (x := a1) (y := zI κ taLength a0) p0 p1
  have hj76 : ∀ (l0 : Nat) (l1 : Int32) (l3 : Int32) (τ : zS), zW C (zn κ) τ → zT τ l0 = 13 → (κ = τ ∧ a0 = l0 ∧ a1 = l1 ∧ True) → w_Ta_sizeAt_76 C (zn κ) Q  l0 l1 l3 τ := by
    rintro _ _ y76_3 _ W76 T76_0 ⟨rfl, rfl, rfl, j76⟩
    unfold w_Ta_sizeAt_76
    intro x1 hx1
    unfold w_Ta_sizeAt_81
    refine ⟨fun n l0 l1 l3 l4 τ => n = ((zI κ taLength a0).toInt - l4.toInt).toNat ∧ (κ = τ ∧ a0 = l0 ∧ a1 = l1 ∧ a1.toInt < l4.toInt ∧ l4.toInt ≤ (zI κ taLength a0).toInt), ⟨_, rfl, ?_⟩, ?_⟩
    · exact ⟨rfl, rfl, rfl, by rw [hx1, e0]; omega, by rw [hx1, e0]; omega⟩  -- j1
    rintro n81 _ _ x81_3 x81_4 _ W81 T81_0 ⟨hn81, rfl, rfl, rfl, i81⟩
    obtain ⟨m0, m1⟩ := i81
    have es : (x81_4 - a1).toInt = x81_4.toInt - a1.toInt := sub_i (by omega) (by omega)
    refine ⟨fun c2 => ?_, fun c2 => ?_⟩
    · skip
      refine h _ ?_
      · rw [es]; omega  -- q2
    · skip
      intro T3
      refine Ta_byteAt_c W81 T3  ?_ (fun r4 q6 => ?_)
      · exact H  -- p3
      intro W7
      intro M8
      refine Ta_isDigit_c W7   (fun r9 q11 => ?_)
      intro W12
      intro M13
      refine ⟨fun c14 => ?_, fun c14 => ?_⟩
      · skip
        intro x15 hx15
        refine ⟨_, ?_, rfl, ?_⟩
        · rw [lei] at c2
          have e1 := inc_i (x := x81_4) (y := zI κ taLength a0) (by omega) (by omega)
          rw [hn81, hx15, e1]; omega
        · rw [lei] at c2
          have e1 := inc_i (x := x81_4) (y := zI κ taLength a0) (by omega) (by omega)
          exact ⟨rfl, rfl, rfl, by rw [hx15, e1]; omega, by rw [hx15, e1]; omega⟩
      · skip
        refine ⟨fun c16 => ?_, fun c16 => ?_⟩
        · skip
          refine h _ ?_
          · rw [es]; omega  -- q6
        · skip
          intro T17
          refine Ta_byteAt_c W12 T17  ?_ (fun r18 q20 => ?_)
          · exact H  -- p7
          intro W21
          intro M22
          refine Ta_isLetter_c W21   (fun r23 q25 => ?_)
          intro W26
          intro M27
          refine ⟨fun c28 => ?_, fun c28 => ?_⟩
          · skip
            refine h _ ?_
            · rw [es]; omega  -- q8
          · skip
            intro x29 hx29
            refine ⟨_, ?_, rfl, ?_⟩
            · rw [lei] at c2
              have e1 := inc_i (x := x81_4) (y := zI κ taLength a0) (by omega) (by omega)
              rw [hn81, hx29, e1]; omega
            · rw [lei] at c2
              have e1 := inc_i (x := x81_4) (y := zI κ taLength a0) (by omega) (by omega)
              exact ⟨rfl, rfl, rfl, by rw [hx29, e1]; omega, by rw [hx29, e1]; omega⟩
  have hj51 : ∀ (l0 : Nat) (l1 : Int32) (s0 : Int32) (τ : zS), zW C (zn κ) τ → zT τ l0 = 13 → (κ = τ ∧ a0 = l0 ∧ a1 = l1 ∧ True) → w_Ta_sizeAt_51 C (zn κ) Q  l0 l1 s0 τ := by
    rintro _ _ y51_s0 _ W51 T51_0 ⟨rfl, rfl, rfl, j51⟩
    unfold w_Ta_sizeAt_51
    refine ⟨fun c30 => ?_, fun c30 => ?_⟩
    · skip
      refine h _ ?_
      · rw [t1i]; omega  -- q11
    · skip
      intro T31
      refine Ta_byteAt_c W51 T31  ?_ (fun r32 q34 => ?_)
      · exact H  -- p12
      intro W35
      intro M36
      refine ⟨fun c37 => ?_, fun c37 => ?_⟩
      · skip
        refine h _ ?_
        · rw [t1i]; omega  -- q13
      · skip
        refine h _ ?_
        · rcases q34 with z | z
          · rw [c37] at z; exact absurd z (by decide)
          · rw [e0] at z
            rw [t2i]; omega
  intro T38
  refine Ta_byteAt_c W T38  ?_ (fun r39 q41 => ?_)
  · exact H  -- p15
  intro W42
  intro M43
  refine Ta_isLetter_c W42   (fun r44 q46 => ?_)
  intro W47
  intro M48
  refine ⟨fun c49 => ?_, fun c49 => ?_⟩
  · skip
    refine hj76 _ _ _ _ W47 ?_ ?_
    · exact Ta0  -- t16
    · exact ⟨rfl, rfl, rfl, trivial⟩  -- k17
  · skip
    refine Ta_isDigit_c W47   (fun r50 q52 => ?_)
    intro W53
    intro M54
    refine ⟨fun c55 => ?_, fun c55 => ?_⟩
    · skip
      refine hj76 _ _ _ _ W53 ?_ ?_
      · exact Ta0  -- t18
      · exact ⟨rfl, rfl, rfl, trivial⟩  -- k19
    · skip
      refine ⟨fun c56 => ?_, fun c56 => ?_⟩
      · skip
        refine hj51 _ _ _ _ W53 ?_ ?_
        · exact Ta0  -- t20
        · exact ⟨rfl, rfl, rfl, trivial⟩  -- k21
      · skip
        refine ⟨fun c57 => ?_, fun c57 => ?_⟩
        · skip
          refine hj51 _ _ _ _ W53 ?_ ?_
          · exact Ta0  -- t22
          · exact ⟨rfl, rfl, rfl, trivial⟩  -- k23
        · skip
          refine ⟨fun c58 => ?_, fun c58 => ?_⟩
          · skip
            refine hj51 _ _ _ _ W53 ?_ ?_
            · exact Ta0  -- t24
            · exact ⟨rfl, rfl, rfl, trivial⟩  -- k25
          · skip
            refine ⟨fun c59 => ?_, fun c59 => ?_⟩
            · skip
              refine hj51 _ _ _ _ W53 ?_ ?_
              · exact Ta0  -- t26
              · exact ⟨rfl, rfl, rfl, trivial⟩  -- k27
            · skip
              refine hj51 _ _ _ _ W53 ?_ ?_
              · exact Ta0  -- t28
              · exact ⟨rfl, rfl, rfl, trivial⟩  -- k29

theorem Ta_numberAt_c {C : zC} {n0 : Nat} {a0 : Nat} {a1 : Int32} {κ : zS} {Q : Int32 → zS → Prop} (W : zW C n0 κ) (Ta0 : zT κ a0 = 13)  (hp : taI κ a0) (h : ∀ (v : Int32), (True) → Q v κ) : zRun C 1 mTa_numberAt [.ref a0, .int a1] κ (oI Q noX) := by
  refine Ta_numberAt_run W Ta0 ?_
  replace W := W.lo (Nat.le_trans W.1.2.1 W.1.2.2) (Nat.le_refl (zn κ))
  unfold w_Ta_numberAt_0
  have B := hp.2
  unfold w_Ta_numberAt_4
  refine ⟨fun n l0 l1 l2 l3 τ => n = ((zA κ (zR κ taLengths a0) a1.toNatClampNeg).toInt - l3.toInt).toNat ∧ (κ = τ ∧ a0 = l0 ∧ a1 = l1 ∧ 0 ≤ l3.toInt), ⟨_, rfl, ?_⟩, ?_⟩
  · exact ⟨rfl, rfl, rfl, by decide⟩  -- j1
  rintro n4 _ _ x4_2 x4_3 _ W4 T4_0 ⟨hn4, rfl, rfl, rfl, i4⟩
  refine ⟨fun c1 => ?_, fun c1 => ?_⟩
  · skip
    refine h _ ?_
    · trivial  -- q2
  · skip
    refine ⟨fun c2 => ?_, fun c2 => ?_⟩
    · skip
      refine h _ ?_
      · trivial  -- q3
    · skip
      refine ⟨?_, ?_⟩
      · rw [lti, t0i] at c1
        rw [lei] at c2
        rw [inb_iff]; omega
      refine ⟨fun c3 => ?_, fun c3 => ?_⟩
      · skip
        refine h _ ?_
        · trivial  -- q5
      · skip
        refine ⟨?_, ?_⟩
        · rw [lti, t0i] at c1
          rw [lei] at c2
          rw [inb_iff]; omega
        intro T4
        refine Ta_byteAt_c W4 T4  ?_ (fun r5 q7 => ?_)
        · exact hp  -- p7
        intro W8
        intro M9
        intro x10 hx10
        intro x11 hx11
        refine ⟨_, ?_, rfl, ?_⟩
        · rw [lei] at c3
          have e1 := inc_i (x := x4_3) i4 (Int.not_le.mp c3)
          rw [hn4, hx11, e1]; omega
        · rw [lei] at c3
          have e1 := inc_i (x := x4_3) i4 (Int.not_le.mp c3)
          exact ⟨rfl, rfl, rfl, by rw [hx11, e1]; omega⟩

theorem Ta_widen_c {C : zC} {n0 : Nat} {a0 : Nat} {a1 : Int32} {κ : zS} {Q : zS → Prop} (W : zW C n0 κ) (Ta0 : zT κ a0 = 13)  (hp : taI κ a0 ∧ 0 ≤ a1.toInt ∧ a1.toInt ≤ 10240) (h : ∀ (κ' : zS), (zF (oneF taBytes a0) κ κ' ∧ taI κ' a0 ∧ zI κ' = zI κ ∧ a1.toInt ≤ (zN κ' (zR κ' taBytes a0))) → Q κ') : zRun C 2 mTa_widen [.ref a0, .int a1] κ (oV Q noX) := by
  refine Ta_widen_run W Ta0 ?_
  replace W := W.lo (Nat.le_trans W.1.2.1 W.1.2.2) (Nat.le_refl (zn κ))
  unfold w_Ta_widen_0
  obtain ⟨H, p0, p1⟩ := hp
  have B := H.1
  have bN := W.n (ty_taBytes W Ta0)
  refine ⟨fun c1 => ?_, fun c1 => ?_⟩
  · skip
    refine h _ ?_
    · rw [lei, ofn_i bN] at c1
      exact ⟨zF.rf, H, rfl, c1⟩
  · skip
    intro T2
    have c9 : (zN κ (zR κ taBytes a0) : Int) < a1.toInt := by rw [lei, ofn_i bN] at c1; omega
    have e2 : (a1 * 2).toInt = a1.toInt * 2 := by rw [mul_i (by rw [t2i]; omega) (by rw [t2i]; omega), t2i]
    have kn := cnk (x := a1 * 2) (by omega)
    refine Ar_copyOfB_c W T2  ?_ (fun r3 κ_4 q5 => ?_)
    · exact ⟨⟨by rw [lei, t0i]; omega, by omega⟩, fun e => by
        have e9 := congrArg Int32.toInt e
        rw [ofn_i bN] at e9
        omega⟩
    intro W6
    intro M7
    intro T8
    refine ⟨?_, ?_⟩
    · rw [q5.1]; exact q5.2.2.1  -- b3
    intro κ_9 hκ_9
    intro W10
    refine h _ ?_
    · have h9 : κ_9 = uo κ_4 taBytes a0 (zn κ) := by rw [hκ_9, q5.1]
      obtain ⟨F9, u1, u2, u3, u4, u5, -⟩ := gr_f (f := taBytes) W (by decide +kernel) (by decide) Ta0 (by decide) q5.2 h9 (by omega) (by omega)
      refine ⟨F9, ?_, u1, ?_⟩
      · unfold taI
        rw [u1, u3, u4, u2 taKinds a0 (fun z => absurd z.1 (by decide)), u2 taPlaces a0 (fun z => absurd z.1 (by decide)), u2 taLengths a0 (fun z => absurd z.1 (by decide)), (u5 _ _ (ty_taKinds W Ta0)).1, (u5 _ _ (ty_taPlaces W Ta0)).1, (u5 _ _ (ty_taLengths W Ta0)).1]
        exact ⟨⟨H.1.1, by omega, by omega, by omega⟩, H.2⟩
      · rw [u3, u4]; omega

theorem Ta_addWord_c {C : zC} {n0 : Nat} {a0 : Nat} {a1 : Int32} {κ : zS} {Q : zS → Prop} (W : zW C n0 κ) (Ta0 : zT κ a0 = 13)  (hp : taI κ a0 ∧ (zI κ taLength a0).toInt + 4 ≤ (zN κ (zR κ taBytes a0))) (h : ∀ (κ' : zS), (zF (objF a0) κ κ' ∧ taI κ' a0 ∧ zR κ' = zR κ ∧ zN κ' = zN κ ∧ (zI κ' taLength a0).toInt = (zI κ taLength a0).toInt + 4 ∧ (∀ f, f ≠ taLength → zI κ' f a0 = zI κ f a0)) → Q κ') : zRun C 0 mTa_addWord [.ref a0, .int a1] κ (oV Q noX) := by
  refine Ta_addWord_run W Ta0 ?_
  replace W := W.lo (Nat.le_trans W.1.2.1 W.1.2.2) (Nat.le_refl (zn κ))
  unfold w_Ta_addWord_0
  obtain ⟨H, p0⟩ := hp
  have B := H.1
  have bN := W.n (ty_taBytes W Ta0)
  unfold w_Ta_addWord_3
  refine ⟨fun n l0 l1 l2 τ => n = (l2.toInt + 8).toNat ∧ (a0 = l0 ∧ a1 = l1 ∧ (-8 ≤ l2.toInt ∧ l2.toInt ≤ 24 ∧ l2.toInt % 8 = 0) ∧ zF (objF a0) κ τ ∧ zR τ = zR κ ∧ zN τ = zN κ ∧ (∀ f, f ≠ taLength → zI τ f a0 = zI κ f a0) ∧ (zI τ taLength a0).toInt * 8 = (zI κ taLength a0).toInt * 8 + (24 - l2.toInt)), ⟨_, rfl, ?_⟩, ?_⟩
  · exact ⟨rfl, rfl, by decide, zF.rf, rfl, rfl, fun _ _ => rfl, by show _ = _ + ((24 : Int) - 24); omega⟩  -- j1
  rintro n3 _ _ x3_2 κ3 W3 T3_0 ⟨hn3, rfl, rfl, i3⟩
  obtain ⟨⟨m0, m1, m2⟩, F, mR, mN, mI, ml⟩ := i3
  refine ⟨fun c1 => ?_, fun c1 => ?_⟩
  · skip
    refine h _ ?_
    · rw [lti, t0i] at c1
      have e : (zI κ3 taLength a0).toInt = (zI κ taLength a0).toInt + 4 := by omega
      refine ⟨F, ?_, mR, mN, e, mI⟩
      unfold taI
      rw [mR, mN, e, mI taTotal (by decide)]
      exact ⟨⟨by omega, by omega, H.1.2.2⟩, H.2⟩
  · skip
    refine ⟨fun c2 => ?_, fun c2 => ?_⟩
    · skip
      refine h _ ?_
      · exfalso
        rw [lti, t0i] at c1
        rw [mR, mN, lei, ofn_i bN] at c2
        omega
    · skip
      refine ⟨?_, ?_⟩
      · rw [lti, t0i] at c1
        rw [mR, mN, lei, ofn_i bN] at c2
        rw [mR, mN, inb_iff]
        omega
      intro κ_3 hκ_3
      intro W4
      intro κ_5 hκ_5
      intro W6
      intro x7 hx7
      rw [lti, t0i] at c1
      have f8 : (-8 : Int32).toInt = -8 := rfl
      have e7 : x7.toInt = x3_2.toInt - 8 := by rw [hx7, add_i (by rw [f8]; omega) (by rw [f8]; omega), f8]; omega
      refine ⟨_, ?_, rfl, ?_⟩
      · rw [hn3, e7]; omega  -- d5
      · have f1 : zF (objF a0) κ3 κ_3 := by rw [hκ_3]; exact zF_ua (by rw [ow_taBytes W3 T3_0])
        have f2 : zF (objF a0) κ_3 κ_5 := by rw [hκ_5]; exact zF_ui rfl
        have i3 : zI κ_3 = zI κ3 := by rw [hκ_3]; rfl
        have is : zI κ_5 taLength a0 = zI κ3 taLength a0 + 1 := by
          rw [hκ_5]
          refine (if_pos ⟨rfl, rfl⟩).trans ?_
          rw [i3]
        have ts : (zI κ_5 taLength a0).toInt = (zI κ3 taLength a0).toInt + 1 := by rw [is, add_i (by rw [t1i]; omega) (by rw [t1i]; omega), t1i]
        refine ⟨rfl, rfl, ⟨by omega, by omega, by omega⟩, (F.tr f1).tr f2, by rw [hκ_5, hκ_3]; exact mR, by rw [hκ_5, hκ_3]; exact mN, fun f hf => ?_, by rw [ts]; omega⟩
        rw [hκ_5]
        exact (if_neg (fun z => hf z.1)).trans ((congrFun (congrFun i3 f) a0).trans (mI f hf))

end
section
set_option maxHeartbeats 1600000
/-! the class: Tape's findName -/
theorem Ta_findName_c {C : zC} {n0 : Nat} {a0 : Nat} {a1 : Nat} {a2 : Int32} {a3 : Int32} {κ : zS} {Q : Int32 → zS → Prop} (W : zW C n0 κ) (Ta0 : zT κ a0 = 13) (Ta1 : zT κ a1 = 20)  (hp : taI κ a0 ∧ tokI κ a0) (h : ∀ (v : Int32), (-1 ≤ v.toInt ∧ v.toInt < zN κ a1 ∧ (v.toInt < a2.toInt ∨ v = -1)) → Q v κ) : zRun C 0 mTa_findName [.ref a0, .ref a1, .int a2, .int a3] κ (oI Q noX) := by
  refine Ta_findName_run W Ta0 Ta1 ?_
  replace W := W.lo (Nat.le_trans W.1.2.1 W.1.2.2) (Nat.le_refl (zn κ))
  unfold w_Ta_findName_0
  obtain ⟨H, K⟩ := hp
  have nN := W.n Ta1
  have B := H.1
  have B2 := H.2
  have hj39 : ∀ (l0 : Nat) (l1 : Nat) (l2 : Int32) (l4 : Int32) (s0 : Int32) (τ : zS), zW C (zn κ) τ → zT τ l0 = 13 → zT τ l1 = 20 → (κ = τ ∧ a0 = l0 ∧ a1 = l1 ∧ a2 = l2 ∧ (0 < l4.toInt → 0 ≤ s0.toInt ∧ s0.toInt + l4.toInt ≤ (zN κ (zR κ taBytes a0)))) → w_Ta_findName_39 C (zn κ) Q  l0 l1 l2 l4 s0 τ := by
    rintro _ _ _ y39_4 y39_s0 _ W39 T39_0 T39_1 ⟨rfl, rfl, rfl, rfl, j39⟩
    unfold w_Ta_findName_39
    unfold w_Ta_findName_44
    refine ⟨fun n l0 l1 l2 l4 l5 l6 τ => n = ((zN κ a1 : Int) - l6.toInt).toNat ∧ (κ = τ ∧ a0 = l0 ∧ a1 = l1 ∧ a2 = l2 ∧ 0 ≤ l6.toInt ∧ (0 < l4.toInt → 0 ≤ l5.toInt ∧ l5.toInt + l4.toInt ≤ (zN κ (zR κ taBytes a0)))), ⟨_, rfl, ?_⟩, ?_⟩
    · exact ⟨rfl, rfl, rfl, rfl, by decide, j39⟩  -- j1
    rintro n44 _ _ _ x44_4 x44_5 x44_6 _ W44 T44_0 T44_1 ⟨hn44, rfl, rfl, rfl, rfl, i44⟩
    obtain ⟨m0, m1⟩ := i44
    have hj145 : ∀ (l0 : Nat) (l1 : Nat) (l2 : Int32) (l4 : Int32) (l5 : Int32) (l6 : Int32) (l9 : Int32) (τ : zS), zW C (zn κ) τ → zT τ l0 = 13 → zT τ l1 = 20 → (κ = τ ∧ a0 = l0 ∧ a1 = l1 ∧ a2 = l2 ∧ (l6 = x44_6 ∧ 0 ≤ l6.toInt ∧ l6.toInt < zN κ a1 ∧ l6.toInt < a2.toInt) ∧ (0 < l4.toInt → 0 ≤ l5.toInt ∧ l5.toInt + l4.toInt ≤ (zN κ (zR κ taBytes a0)))) → w_Ta_findName_145 C (zn κ) Q (fun (l0' : Nat) (l1' : Nat) (l2' : Int32) (l4' : Int32) (l5' : Int32) (l6' : Int32) (τ : zS) => ∃ k < n44, (fun (n : Nat) (l0 : Nat) (l1 : Nat) (l2 : Int32) (l4 : Int32) (l5 : Int32) (l6 : Int32) (τ : zS) => n = ((zN κ a1 : Int) - l6.toInt).toNat ∧ (κ = τ ∧ a0 = l0 ∧ a1 = l1 ∧ a2 = l2 ∧ 0 ≤ l6.toInt ∧ (0 < l4.toInt → 0 ≤ l5.toInt ∧ l5.toInt + l4.toInt ≤ (zN κ (zR κ taBytes a0))))) k l0' l1' l2' l4' l5' l6' τ) l0 l1 l2 l4 l5 l6 l9 τ := by
      rintro _ _ _ y145_4 y145_5 y145_6 y145_9 _ W145 T145_0 T145_1 ⟨rfl, rfl, rfl, rfl, j145⟩
      unfold w_Ta_findName_145
      obtain ⟨⟨u0, u1, u2, u3⟩, us⟩ := j145
      have e1 := inc_i (x := y145_6) (y := a2) u1 u3
      refine ⟨fun c1 => ?_, fun c1 => ?_⟩
      · skip
        intro x2 hx2
        refine ⟨_, ?_, rfl, ?_⟩
        · rw [hn44, hx2, e1, ← u0]; omega  -- d2
        · exact ⟨rfl, rfl, rfl, rfl, by rw [hx2, e1]; omega, us⟩  -- i3
      · skip
        refine ⟨fun c3 => ?_, fun c3 => ?_⟩
        · skip
          intro x4 hx4
          refine ⟨_, ?_, rfl, ?_⟩
          · rw [hn44, hx4, e1, ← u0]; omega  -- d4
          · exact ⟨rfl, rfl, rfl, rfl, by rw [hx4, e1]; omega, us⟩  -- i5
        · skip
          refine h _ ?_
          · exact ⟨by omega, u2, Or.inl u3⟩  -- q6
    have hj83 : ∀ (l0 : Nat) (l1 : Nat) (l2 : Int32) (l4 : Int32) (l5 : Int32) (l6 : Int32) (s0 : Int32) (τ : zS), zW C (zn κ) τ → zT τ l0 = 13 → zT τ l1 = 20 → (κ = τ ∧ a0 = l0 ∧ a1 = l1 ∧ a2 = l2 ∧ (0 ≤ s0.toInt ∧ s0.toInt < (zN κ (zR κ taKinds a0))) ∧ (l6 = x44_6 ∧ 0 ≤ l6.toInt ∧ l6.toInt < zN κ a1 ∧ l6.toInt < a2.toInt) ∧ (0 < l4.toInt → 0 ≤ l5.toInt ∧ l5.toInt + l4.toInt ≤ (zN κ (zR κ taBytes a0)))) → w_Ta_findName_83 C (zn κ) Q (fun (l0' : Nat) (l1' : Nat) (l2' : Int32) (l4' : Int32) (l5' : Int32) (l6' : Int32) (τ : zS) => ∃ k < n44, (fun (n : Nat) (l0 : Nat) (l1 : Nat) (l2 : Int32) (l4 : Int32) (l5 : Int32) (l6 : Int32) (τ : zS) => n = ((zN κ a1 : Int) - l6.toInt).toNat ∧ (κ = τ ∧ a0 = l0 ∧ a1 = l1 ∧ a2 = l2 ∧ 0 ≤ l6.toInt ∧ (0 < l4.toInt → 0 ≤ l5.toInt ∧ l5.toInt + l4.toInt ≤ (zN κ (zR κ taBytes a0))))) k l0' l1' l2' l4' l5' l6' τ) l0 l1 l2 l4 l5 l6 s0 τ := by
      rintro _ _ _ y83_4 y83_5 y83_6 y83_s0 _ W83 T83_0 T83_1 ⟨rfl, rfl, rfl, rfl, j83⟩
      unfold w_Ta_findName_83
      obtain ⟨⟨w0, w1⟩, wu, ws⟩ := j83
      refine ⟨?_, ?_⟩
      · rw [inb_iff]; omega  -- b7
      intro x5 hx5
      unfold w_Ta_findName_97
      refine ⟨fun n l0 l1 l2 l4 l5 l6 l7 l8 l9 τ => n = (l4.toInt - l9.toInt).toNat ∧ (κ = τ ∧ a0 = l0 ∧ a1 = l1 ∧ a2 = l2 ∧ 0 ≤ l9.toInt ∧ (0 ≤ l7.toInt ∧ l7.toInt < (zN κ (zR κ taKinds a0)) ∧ l8.toInt = (zA κ (zR κ taPlaces a0) l7.toNatClampNeg).toInt) ∧ (l6 = x44_6 ∧ 0 ≤ l6.toInt ∧ l6.toInt < zN κ a1 ∧ l6.toInt < a2.toInt) ∧ (0 < l4.toInt → 0 ≤ l5.toInt ∧ l5.toInt + l4.toInt ≤ (zN κ (zR κ taBytes a0)))), ⟨_, rfl, ?_⟩, ?_⟩
      · exact ⟨rfl, rfl, rfl, rfl, by decide, ⟨w0, w1, by rw [hx5]⟩, wu, ws⟩  -- j8
      rintro n97 _ _ _ x97_4 x97_5 x97_6 x97_7 x97_8 x97_9 _ W97 T97_0 T97_1 ⟨hn97, rfl, rfl, rfl, rfl, i97⟩
      obtain ⟨o0, ⟨o1, o2, o3⟩, ou, os⟩ := i97
      refine ⟨fun c6 => ?_, fun c6 => ?_⟩
      · skip
        refine hj145 _ _ _ _ _ _ _ _ W97 ?_ ?_ ?_
        · first | exact Ta0 | exact Ta1  -- t9
        · first | exact Ta0 | exact Ta1  -- t10
        · exact ⟨rfl, rfl, rfl, rfl, ou, os⟩  -- k11
      · skip
        refine ⟨?_, ?_⟩
        · rw [inb_iff]; omega  -- b12
        refine ⟨fun c7 => ?_, fun c7 => ?_⟩
        · skip
          refine hj145 _ _ _ _ _ _ _ _ W97 ?_ ?_ ?_
          · first | exact Ta0 | exact Ta1  -- t13
          · first | exact Ta0 | exact Ta1  -- t14
          · exact ⟨rfl, rfl, rfl, rfl, ou, os⟩  -- k15
        · skip
          have d6 : x97_9.toInt < x97_4.toInt := by rw [lei] at c6; omega
          have k7 := cnk o1
          have g := K x97_7.toNatClampNeg (by omega)
          have e7 : (zA κ (zR κ taLengths a0) x97_7.toNatClampNeg).toInt = x97_4.toInt := congrArg Int32.toInt c7
          have s9 := os (by omega)
          refine ⟨?_, ?_⟩
          · have e : (x97_5 + x97_9).toInt = x97_5.toInt + x97_9.toInt := add_i (by omega) (by omega)
            rw [inb_iff, e]; omega
          refine ⟨?_, ?_⟩
          · have e : (x97_8 + x97_9).toInt = x97_8.toInt + x97_9.toInt := add_i (by omega) (by omega)
            rw [inb_iff, e]; omega
          refine ⟨fun c8 => ?_, fun c8 => ?_⟩
          · skip
            refine hj145 _ _ _ _ _ _ _ _ W97 ?_ ?_ ?_
            · first | exact Ta0 | exact Ta1  -- t18
            · first | exact Ta0 | exact Ta1  -- t19
            · exact ⟨rfl, rfl, rfl, rfl, ou, os⟩  -- k20
          · skip
            intro x9 hx9
            refine ⟨_, ?_, rfl, ?_⟩
            · have e1 := inc_i (x := x97_9) (y := x97_4) o0 d6
              rw [hn97, hx9, e1]; omega
            · have e1 := inc_i (x := x97_9) (y := x97_4) o0 d6
              exact ⟨rfl, rfl, rfl, rfl, by rw [hx9, e1]; omega, ⟨o1, o2, o3⟩, ou, os⟩
    refine ⟨fun c10 => ?_, fun c10 => ?_⟩
    · skip
      refine h _ ?_
      · exact ⟨by decide, by rw [tmi]; omega, Or.inr rfl⟩  -- q23
    · skip
      refine ⟨fun c11 => ?_, fun c11 => ?_⟩
      · skip
        refine h _ ?_
        · exact ⟨by decide, by rw [tmi]; omega, Or.inr rfl⟩  -- q24
      · skip
        have d10 : x44_6.toInt < a2.toInt := by rw [lei] at c10; omega
        have d11 : x44_6.toInt < zN κ a1 := by rw [lei, ofn_i nN] at c11; omega
        refine ⟨?_, ?_⟩
        · rw [inb_iff]; omega  -- b25
        refine ⟨fun c12 => ?_, fun c12 => ?_⟩
        · skip
          refine hj83 _ _ _ _ _ _ _ _ W44 ?_ ?_ ?_
          · first | exact Ta0 | exact Ta1  -- t26
          · first | exact Ta0 | exact Ta1  -- t27
          · exact ⟨rfl, rfl, rfl, rfl, ⟨by decide, by rw [t0i]; omega⟩, ⟨rfl, m0, d11, d10⟩, m1⟩  -- k28
        · skip
          refine ⟨?_, ?_⟩
          · rw [inb_iff]; omega  -- b29
          refine ⟨fun c13 => ?_, fun c13 => ?_⟩
          · skip
            refine hj83 _ _ _ _ _ _ _ _ W44 ?_ ?_ ?_
            · first | exact Ta0 | exact Ta1  -- t30
            · first | exact Ta0 | exact Ta1  -- t31
            · exact ⟨rfl, rfl, rfl, rfl, ⟨by decide, by rw [t0i]; omega⟩, ⟨rfl, m0, d11, d10⟩, m1⟩  -- k32
          · skip
            refine ⟨?_, ?_⟩
            · rw [inb_iff]; omega  -- b33
            refine hj83 _ _ _ _ _ _ _ _ W44 ?_ ?_ ?_
            · first | exact Ta0 | exact Ta1  -- t34
            · first | exact Ta0 | exact Ta1  -- t35
            · rw [lti, t0i] at c12
              rw [lei] at c13
              exact ⟨rfl, rfl, rfl, rfl, ⟨by omega, by omega⟩, ⟨rfl, m0, d11, d10⟩, m1⟩
  have hj22 : ∀ (l0 : Nat) (l1 : Nat) (l2 : Int32) (l3 : Int32) (s0 : Int32) (τ : zS), zW C (zn κ) τ → zT τ l0 = 13 → zT τ l1 = 20 → (κ = τ ∧ a0 = l0 ∧ a1 = l1 ∧ a2 = l2 ∧ a3 = l3 ∧ (0 < s0.toInt → 0 ≤ a3.toInt ∧ a3.toInt < (zI κ taTotal a0).toInt ∧ s0.toInt = (zA κ (zR κ taLengths a0) a3.toNatClampNeg).toInt)) → w_Ta_findName_22 C (zn κ) Q  l0 l1 l2 l3 s0 τ := by
    rintro _ _ _ _ y22_s0 _ W22 T22_0 T22_1 ⟨rfl, rfl, rfl, rfl, rfl, j22⟩
    unfold w_Ta_findName_22
    refine ⟨fun c14 => ?_, fun c14 => ?_⟩
    · skip
      refine hj39 _ _ _ _ _ _ W22 ?_ ?_ ?_
      · first | exact Ta0 | exact Ta1  -- t37
      · first | exact Ta0 | exact Ta1  -- t38
      · rw [lei, t0i] at c14
        exact ⟨rfl, rfl, rfl, rfl, fun z => by omega⟩
    · skip
      have j9 := fun z => j22 z
      refine ⟨?_, ?_⟩
      · rw [lei, t0i] at c14
        have z := j22 (by omega)
        rw [inb_iff]; omega
      refine hj39 _ _ _ _ _ _ W22 ?_ ?_ ?_
      · first | exact Ta0 | exact Ta1  -- t41
      · first | exact Ta0 | exact Ta1  -- t42
      · rw [lei, t0i] at c14
        have z := j22 (by omega)
        have k3 := cnk z.1
        have g := K a3.toNatClampNeg (by omega)
        exact ⟨rfl, rfl, rfl, rfl, fun _ => ⟨g.1, by omega⟩⟩
  refine ⟨fun c15 => ?_, fun c15 => ?_⟩
  · skip
    refine hj22 _ _ _ _ _ _ W ?_ ?_ ?_
    · first | exact Ta0 | exact Ta1  -- t44
    · first | exact Ta0 | exact Ta1  -- t45
    · exact ⟨rfl, rfl, rfl, rfl, rfl, fun z => absurd z (by decide)⟩  -- k46
  · skip
    refine ⟨fun c16 => ?_, fun c16 => ?_⟩
    · skip
      refine hj22 _ _ _ _ _ _ W ?_ ?_ ?_
      · first | exact Ta0 | exact Ta1  -- t47
      · first | exact Ta0 | exact Ta1  -- t48
      · exact ⟨rfl, rfl, rfl, rfl, rfl, fun z => absurd z (by decide)⟩  -- k49
    · skip
      refine ⟨?_, ?_⟩
      · rw [lti, t0i] at c15
        rw [lei] at c16
        rw [inb_iff]; omega
      refine hj22 _ _ _ _ _ _ W ?_ ?_ ?_
      · first | exact Ta0 | exact Ta1  -- t51
      · first | exact Ta0 | exact Ta1  -- t52
      · rw [lti, t0i] at c15
        rw [lei] at c16
        exact ⟨rfl, rfl, rfl, rfl, rfl, fun _ => ⟨by omega, by omega, rfl⟩⟩

end
section
set_option maxHeartbeats 1600000
/-! the class: Tape's addToken -/
def tkJ (κ τ : zS) (a0 : Nat) : Prop := zF (objF a0) κ τ ∧ zI τ = zI κ ∧ taI τ a0 ∧ tokI τ a0 ∧ (zI κ taTotal a0).toInt < (zN τ (zR τ taKinds a0)) ∧ zR τ taBytes a0 = zR κ taBytes a0
abbrev taRf : List Nat := [taBytes, taKinds, taPlaces, taLengths]
theorem taRf_r : ∀ f, f ∈ taRf → (∃ t, zr f = some t ∧ 20 ≤ t) ∧ f / 100 = 13 := by
  intro f h
  simp only [List.mem_cons, List.not_mem_nil, or_false] at h
  rcases h with rfl | rfl | rfl | rfl
  · exact ⟨⟨21, by decide +kernel, by decide⟩, rfl⟩
  · exact ⟨⟨20, by decide +kernel, by decide⟩, rfl⟩
  · exact ⟨⟨20, by decide +kernel, by decide⟩, rfl⟩
  · exact ⟨⟨20, by decide +kernel, by decide⟩, rfl⟩
theorem taRf_n {C : zC} {n0 c f g : Nat} {κ : zS} (W : zW C n0 κ) (T : zT κ c = 13) (hf : f ∈ taRf) (hg : g ∈ taRf) (h : f ≠ g) : zR κ f c ≠ zR κ g c := by
  obtain ⟨⟨t, h1, h2⟩, h3⟩ := taRf_r f hf
  obtain ⟨⟨u, g1, g2⟩, g3⟩ := taRf_r g hg
  exact ow_ne W h1 h2 (T.trans h3.symm) g1 g2 (T.trans g3.symm) h
theorem Ta_addToken_c {C : zC} {n0 : Nat} {a0 : Nat} {a1 : Int32} {a2 : Int32} {a3 : Int32} {κ : zS} {Q : zS → Prop} (W : zW C n0 κ) (Ta0 : zT κ a0 = 13)  (hp : taI κ a0 ∧ tokI κ a0 ∧ (zI κ taTotal a0).toInt < 10245 ∧ 0 ≤ a2.toInt ∧ 0 ≤ a3.toInt ∧ a2.toInt + a3.toInt ≤ (zN κ (zR κ taBytes a0))) (h : ∀ (κ' : zS), (zF (objF a0) κ κ' ∧ taI κ' a0 ∧ tokI κ' a0 ∧ zI κ' taTotal a0 = zI κ taTotal a0 + 1 ∧ (∀ f, f ≠ taTotal → zI κ' f a0 = zI κ f a0) ∧ zR κ' taBytes a0 = zR κ taBytes a0) → Q κ') : zRun C 2 mTa_addToken [.ref a0, .int a1, .int a2, .int a3] κ (oV Q noX) := by
  refine Ta_addToken_run W Ta0 ?_
  replace W := W.lo (Nat.le_trans W.1.2.1 W.1.2.2) (Nat.le_refl (zn κ))
  unfold w_Ta_addToken_0
  obtain ⟨H, K, p0, p1, p2, p3⟩ := hp
  have B := H.1
  have B2 := H.2
  have oN := W.n (ty_taKinds W Ta0)
  have hj63 : ∀ (l0 : Nat) (l1 : Int32) (l2 : Int32) (l3 : Int32) (τ : zS), zW C (zn κ) τ → zT τ l0 = 13 → (a0 = l0 ∧ a1 = l1 ∧ a2 = l2 ∧ a3 = l3 ∧ tkJ κ τ a0) → w_Ta_addToken_63 C (zn κ) Q  l0 l1 l2 l3 τ := by
    rintro _ _ _ _ τ63 W63 T63_0 ⟨rfl, rfl, rfl, rfl, j63⟩
    unfold w_Ta_addToken_63
    obtain ⟨F, jI, J, jK, jl, jB⟩ := j63
    have D1 := J.1
    have D2 := J.2
    rw [jI] at D1 D2
    have kt := cnk B2.1
    refine ⟨?_, ?_⟩
    · rw [inb_iff, jI]; omega  -- b1
    intro κ_1 hκ_1
    intro W2
    refine ⟨?_, ?_⟩
    · rw [hκ_1, inb_iff]
      show 0 ≤ (zI τ63 taTotal a0).toInt ∧ (zI τ63 taTotal a0).toInt < ((zN τ63 (zR τ63 taPlaces a0) : Nat) : Int)
      rw [jI]; omega
    intro κ_3 hκ_3
    intro W4
    refine ⟨?_, ?_⟩
    · rw [hκ_3, hκ_1, inb_iff]
      show 0 ≤ (zI τ63 taTotal a0).toInt ∧ (zI τ63 taTotal a0).toInt < ((zN τ63 (zR τ63 taLengths a0) : Nat) : Int)
      rw [jI]; omega
    intro κ_5 hκ_5
    intro W6
    intro κ_7 hκ_7
    intro W8
    refine h _ ?_
    · have f1 : zF (objF a0) τ63 κ_1 := by rw [hκ_1]; exact zF_ua (by rw [ow_taKinds W63 T63_0])
      have T1 := f1.t T63_0 (by decide)
      have f3 : zF (objF a0) κ_1 κ_3 := by rw [hκ_3]; exact zF_ua (by rw [ow_taPlaces W2 T1])
      have T3 := f3.t T1 (by decide)
      have f5 : zF (objF a0) κ_3 κ_5 := by rw [hκ_5]; exact zF_ua (by rw [ow_taLengths W4 T3])
      have f7 : zF (objF a0) κ_5 κ_7 := by rw [hκ_7]; exact zF_ui rfl
      have i1 : zI κ_1 = zI κ := by rw [hκ_1]; exact jI
      have i3 : zI κ_3 = zI κ := by rw [hκ_3]; exact i1
      have i5 : zI κ_5 = zI κ := by rw [hκ_5]; exact i3
      have r1 : zR κ_1 = zR τ63 := by rw [hκ_1]; rfl
      have r3 : zR κ_3 = zR τ63 := by rw [hκ_3]; exact r1
      have r7 : zR κ_7 = zR τ63 := by rw [hκ_7, hκ_5]; exact r3
      have n7 : zN κ_7 = zN τ63 := by rw [hκ_7, hκ_5, hκ_3, hκ_1]; rfl
      have is : zI κ_7 taTotal a0 = zI κ taTotal a0 + 1 := by
        rw [hκ_7]
        refine (if_pos ⟨rfl, rfl⟩).trans ?_
        rw [i5]
      have io : ∀ f, f ≠ taTotal → zI κ_7 f a0 = zI κ f a0 := fun f hf => by
        rw [hκ_7]
        exact (if_neg (fun z => hf z.1)).trans (congrFun (congrFun i5 f) a0)
      have ts : (zI κ_7 taTotal a0).toInt = (zI κ taTotal a0).toInt + 1 := by rw [is, add_i (by rw [t1i]; omega) (by rw [t1i]; omega), t1i]
      have xp : zA κ_7 (zR τ63 taPlaces a0) = upd (zA τ63 (zR τ63 taPlaces a0)) (zI κ taTotal a0).toNatClampNeg a2 := by
        have e7 : zA κ_7 = zA κ_5 := by rw [hκ_7]; rfl
        have e5 : zA κ_5 (zR τ63 taPlaces a0) = zA κ_3 (zR τ63 taPlaces a0) := by
          rw [hκ_5, r3]
          exact if_neg (taRf_n W63 T63_0 (by decide) (by decide) (by decide))
        rw [e7, e5, hκ_3, r1, i1]
        refine (if_pos rfl).trans ?_
        have e1 : zA κ_1 (zR τ63 taPlaces a0) = zA τ63 (zR τ63 taPlaces a0) := by rw [hκ_1]; exact if_neg (taRf_n W63 T63_0 (by decide) (by decide) (by decide))
        show upd (zA κ_1 (zR τ63 taPlaces a0)) _ _ = _
        rw [e1]
      have xl : zA κ_7 (zR τ63 taLengths a0) = upd (zA τ63 (zR τ63 taLengths a0)) (zI κ taTotal a0).toNatClampNeg a3 := by
        have e7 : zA κ_7 = zA κ_5 := by rw [hκ_7]; rfl
        rw [e7, hκ_5, r3, i3]
        refine (if_pos rfl).trans ?_
        have e3 : zA κ_3 (zR τ63 taLengths a0) = zA τ63 (zR τ63 taLengths a0) := by
          rw [hκ_3, r1]
          refine (if_neg (taRf_n W63 T63_0 (by decide) (by decide) (by decide))).trans ?_
          rw [hκ_1]
          exact if_neg (taRf_n W63 T63_0 (by decide) (by decide) (by decide))
        show upd (zA κ_3 (zR τ63 taLengths a0)) _ _ = _
        rw [e3]
      have lb : zN τ63 (zR τ63 taBytes a0) = zN κ (zR κ taBytes a0) := by rw [jB]; exact F.l (ty_taBytes W Ta0)
      refine ⟨(((F.tr f1).tr f3).tr f5).tr f7, ?_, fun i hi => ?_, is, io, by rw [r7]; exact jB⟩
      · unfold taI
        rw [r7, n7, ts, io taLength (by decide)]
        exact ⟨D1, by omega, by omega, D2.2.2⟩
      · rw [r7, n7] at hi
        rw [r7, n7, xp, xl]
        have g := jK i hi
        show 0 ≤ Int32.toInt (if i = _ then a2 else _) ∧ 0 ≤ Int32.toInt (if i = _ then a3 else _) ∧ Int32.toInt (if i = _ then a2 else _) + Int32.toInt (if i = _ then a3 else _) ≤ _
        by_cases z : i = (zI κ taTotal a0).toNatClampNeg
        · rw [if_pos z, if_pos z]; omega
        · rw [if_neg z, if_neg z]; exact g
  refine ⟨fun c9 => ?_, fun c9 => ?_⟩
  · skip
    refine hj63 _ _ _ _ _ W ?_ ?_
    · exact Ta0  -- t5
    · rw [lti, ofn_i oN] at c9
      exact ⟨rfl, rfl, rfl, rfl, zF.rf, rfl, H, K, c9, rfl⟩
  · skip
    intro T10
    have d9 : (zI κ taTotal a0).toInt = zN κ (zR κ taKinds a0) := by rw [lti, ofn_i oN] at c9; omega
    have e2 : (zI κ taTotal a0 * 2).toInt = (zI κ taTotal a0).toInt * 2 := by rw [mul_i (by rw [t2i]; omega) (by rw [t2i]; omega), t2i]
    have kn := cnk (x := zI κ taTotal a0 * 2) (by omega)
    refine Ar_copyOf_c W T10  ?_ (fun r11 κ_12 q13 => ?_)
    · exact ⟨⟨by rw [lei, t0i]; omega, by omega⟩, fun e => by
        have e9 := congrArg Int32.toInt e
        rw [ofn_i oN] at e9
        omega⟩
    intro W14
    intro M15
    intro T16
    refine ⟨?_, ?_⟩
    · rw [q13.1]; exact q13.2.2.1  -- b8
    intro κ_17 hκ_17
    intro W18
    intro T19
    have h1 : κ_17 = uo κ_12 taKinds a0 (zn κ) := by rw [hκ_17, q13.1]
    obtain ⟨F1, u1, u2, u3, u4, u5, -⟩ := gr_f (f := taKinds) W (by decide +kernel) (by decide) Ta0 (by decide) q13.2 h1 (by omega) (by omega)
    have T17 := F1.t Ta0 (by decide)
    have rp : zR κ_17 taPlaces a0 = zR κ taPlaces a0 := u2 taPlaces a0 (fun z => absurd z.1 (by decide))
    have np := u5 _ _ (ty_taPlaces W Ta0)
    have pN := W18.n (ty_taPlaces W18 T17)
    rw [u1]
    refine Ar_copyOf_c W18 T19  ?_ (fun r20 κ_21 q22 => ?_)
    · exact ⟨⟨by rw [lei, t0i]; omega, by omega⟩, fun e => by
        have e9 := congrArg Int32.toInt e
        rw [ofn_i pN, rp, np.1] at e9
        omega⟩
    intro W23
    intro M24
    intro T25
    refine ⟨?_, ?_⟩
    · rw [q22.1]; exact q22.2.2.1  -- b10
    intro κ_26 hκ_26
    intro W27
    intro T28
    have h2 : κ_26 = uo κ_21 taPlaces a0 (zn κ_17) := by rw [hκ_26, q22.1]
    obtain ⟨F2, v1, v2, v3, v4, v5, v6, v7⟩ := gr_f (f := taPlaces) W18 (by decide +kernel) (by decide) T17 (by decide) q22.2 h2 (by rw [rp, np.1]; omega) (by rw [rp, np.1]; omega)
    have T26 := F2.t T17 (by decide)
    have rl1 : zR κ_17 taLengths a0 = zR κ taLengths a0 := u2 taLengths a0 (fun z => absurd z.1 (by decide))
    have rl2 : zR κ_26 taLengths a0 = zR κ_17 taLengths a0 := v2 taLengths a0 (fun z => absurd z.1 (by decide))
    have nl1 := u5 _ _ (ty_taLengths W Ta0)
    have nl2 := v5 _ _ (ty_taLengths W18 T17)
    have lN := W27.n (ty_taLengths W27 T26)
    have ln : zN κ_26 (zR κ_26 taLengths a0) = zN κ (zR κ taLengths a0) := by rw [rl2, nl2.1, rl1, nl1.1]
    rw [v1, u1]
    refine Ar_copyOf_c W27 T28  ?_ (fun r29 κ_30 q31 => ?_)
    · exact ⟨⟨by rw [lei, t0i]; omega, by omega⟩, fun e => by
        have e9 := congrArg Int32.toInt e
        rw [ofn_i lN, ln] at e9
        omega⟩
    intro W32
    intro M33
    intro T34
    refine ⟨?_, ?_⟩
    · rw [q31.1]; exact q31.2.2.1  -- b12
    intro κ_35 hκ_35
    intro W36
    have h3 : κ_35 = uo κ_30 taLengths a0 (zn κ_26) := by rw [hκ_35, q31.1]
    obtain ⟨F3, w1, w2, w3, w4, w5, w6, w7⟩ := gr_f (f := taLengths) W27 (by decide +kernel) (by decide) T26 (by decide) q31.2 h3 (by rw [ln]; omega) (by rw [ln]; omega)
    have FF : zF (objF a0) κ κ_35 := ((F1.mono (fun _ _ z => z.2)).tr (F2.mono (fun _ _ z => z.2))).tr (F3.mono (fun _ _ z => z.2))
    refine hj63 _ _ _ _ _ W36 ?_ ?_
    · exact FF.t Ta0 (by decide)  -- t13
    · have ii : zI κ_35 = zI κ := w1.trans (v1.trans u1)
      have kB : zR κ_35 taBytes a0 = zR κ taBytes a0 := (w2 taBytes a0 (fun z => absurd z.1 (by decide))).trans ((v2 taBytes a0 (fun z => absurd z.1 (by decide))).trans (u2 taBytes a0 (fun z => absurd z.1 (by decide))))
      have kK : zR κ_35 taKinds a0 = zn κ := (w2 taKinds a0 (fun z => absurd z.1 (by decide))).trans ((v2 taKinds a0 (fun z => absurd z.1 (by decide))).trans u3)
      have kP : zR κ_35 taPlaces a0 = zn κ_17 := (w2 taPlaces a0 (fun z => absurd z.1 (by decide))).trans v3
      have tK : zT κ_17 (zn κ) = 20 := by rw [← u3]; exact ty_taKinds W18 T17
      have tP : zT κ_26 (zn κ_17) = 20 := by rw [← v3]; exact ty_taPlaces W27 T26
      have nK : zN κ_35 (zn κ) = (zI κ taTotal a0 * 2).toNatClampNeg := ((w5 _ _ (F2.t tK (by decide))).1).trans (((v5 _ _ tK).1).trans u4)
      have nP : zN κ_35 (zn κ_17) = (zI κ taTotal a0 * 2).toNatClampNeg := ((w5 _ _ tP).1).trans v4
      have nB : zN κ_35 (zR κ taBytes a0) = zN κ (zR κ taBytes a0) := FF.l (ty_taBytes W Ta0)
      have aP : ∀ i, i < (zI κ taTotal a0 * 2).toNatClampNeg → zA κ_35 (zn κ_17) i = zA κ (zR κ taPlaces a0) i ∧ i < zN κ (zR κ taPlaces a0) ∨ zA κ_35 (zn κ_17) i = 0 ∧ zN κ (zR κ taPlaces a0) ≤ i := fun i hi => by
        rw [(w5 _ _ tP).2]
        by_cases z : i < zN κ (zR κ taPlaces a0)
        · left
          refine ⟨?_, z⟩
          rw [v6 i hi (by rw [rp, np.1]; exact z), rp, np.2]
        · right
          exact ⟨v7 i (by rw [rp, np.1]; omega), by omega⟩
      have aL : ∀ i, i < (zI κ taTotal a0 * 2).toNatClampNeg → zA κ_35 (zn κ_26) i = zA κ (zR κ taLengths a0) i ∧ i < zN κ (zR κ taLengths a0) ∨ zA κ_35 (zn κ_26) i = 0 ∧ zN κ (zR κ taLengths a0) ≤ i := fun i hi => by
        by_cases z : i < zN κ (zR κ taLengths a0)
        · left
          refine ⟨?_, z⟩
          rw [w6 i hi (by rw [ln]; exact z), rl2, nl2.2, rl1, nl1.2]
        · right
          exact ⟨w7 i (by rw [ln]; omega), by omega⟩
      refine ⟨rfl, rfl, rfl, rfl, FF, ii, ?_, fun i hi => ?_, by rw [kK, nK]; omega, kB⟩
      · unfold taI
        rw [ii, kB, kK, kP, w3, nB, nK, nP, w4]
        exact ⟨B, B2.1, by omega, rfl, rfl, by omega, by omega⟩
      · rw [kK, nK] at hi
        rw [kP, w3, kB, nB]
        rcases aP i hi with ⟨e, z⟩ | ⟨e, z⟩
        · rcases aL i hi with ⟨e3, z3⟩ | ⟨e3, z3⟩
          · rw [e, e3]; exact K i (by omega)
          · omega
        · rcases aL i hi with ⟨e3, z3⟩ | ⟨e3, z3⟩
          · omega
          · rw [e, e3, t0i]; omega

end
section
set_option maxHeartbeats 1600000
/-! the class: Machine's leaves -/
/-- the lengths of a machine's rows -/
def maL (κ : zS) (m : Nat) : Prop := (zN κ (zR κ maMemory m)) = 142 ∧ (zN κ (zR κ maStack m)) = 256 ∧ (zN κ (zR κ maWorked m)) = 16 ∧ (zN κ (zR κ maValues m)) = 64 ∧ (zN κ (zR κ maWeights m)) = 64
theorem Ma_length_c {C : zC} {n0 : Nat} {a0 : Nat} {κ : zS} {Q : Int32 → zS → Prop} (W : zW C n0 κ) (Ta0 : zT κ a0 = 7)  (h : ∀ (v : Int32), (v = zI κ maShared a0 + zI κ maOpen a0 * 9) → Q v κ) : zRun C 0 mMa_length [.ref a0] κ (oI Q noX) := by
  refine Ma_length_run W Ta0 ?_
  replace W := W.lo (Nat.le_trans W.1.2.1 W.1.2.2) (Nat.le_refl (zn κ))
  unfold w_Ma_length_0
  refine h _ ?_
  · rfl  -- q1

theorem Ma_fail_c {C : zC} {n0 : Nat} {a0 : Nat} {a1 : Int32} {κ : zS} {Q : zS → Prop} (W : zW C n0 κ) (Ta0 : zT κ a0 = 7)  (h : ∀ (κ' : zS), (zF (objF a0) κ κ' ∧ zR κ' = zR κ ∧ zN κ' = zN κ ∧ zA κ' = zA κ ∧ (∀ f b, ¬ (f = maFailure ∧ b = a0) → ¬ (f = maOutcome ∧ b = a0) → zI κ' f b = zI κ f b) ∧ zI κ' maFailure a0 = a1 ∧ zI κ' maOutcome a0 = 2) → Q κ') : zRun C 0 mMa_fail [.ref a0, .int a1] κ (oV Q noX) := by
  refine Ma_fail_run W Ta0 ?_
  replace W := W.lo (Nat.le_trans W.1.2.1 W.1.2.2) (Nat.le_refl (zn κ))
  unfold w_Ma_fail_0
  intro κ_1 hκ_1
  intro W2
  intro κ_3 hκ_3
  intro W4
  refine h _ ?_
  · have f1 : zF (objF a0) κ κ_1 := by rw [hκ_1]; exact zF_ui rfl
    have f2 : zF (objF a0) κ_1 κ_3 := by rw [hκ_3]; exact zF_ui rfl
    refine ⟨f1.tr f2, by rw [hκ_3, hκ_1]; rfl, by rw [hκ_3, hκ_1]; rfl, by rw [hκ_3, hκ_1]; rfl, fun f b h1 h2 => ?_, ?_, ?_⟩
    · rw [hκ_3, hκ_1]
      exact (if_neg h2).trans (if_neg h1)
    · have e : zI κ_3 maFailure a0 = zI κ_1 maFailure a0 := by rw [hκ_3]; rfl
      rw [e, hκ_1]
      exact if_pos ⟨rfl, rfl⟩
    · rw [hκ_3]
      exact if_pos ⟨rfl, rfl⟩

theorem Ma_slot_c {C : zC} {n0 : Nat} {a0 : Nat} {a1 : Int32} {a2 : Int32} {κ : zS} {Q : Int32 → zS → Prop} (W : zW C n0 κ) (Ta0 : zT κ a0 = 7)  (h : ∀ (v : Int32), (True) → Q v κ) : zRun C 0 mMa_slot [.ref a0, .int a1, .int a2] κ (oI Q noX) := by
  refine Ma_slot_run W Ta0 ?_
  replace W := W.lo (Nat.le_trans W.1.2.1 W.1.2.2) (Nat.le_refl (zn κ))
  unfold w_Ma_slot_0
  refine ⟨fun c1 => ?_, fun c1 => ?_⟩
  · skip
    refine ⟨fun c2 => ?_, fun c2 => ?_⟩
    · skip
      refine h _ ?_
      · trivial  -- q1
    · skip
      refine h _ ?_
      · trivial  -- q2
  · skip
    refine h _ ?_
    · trivial  -- q3

theorem Ma_cellAt_c {C : zC} {n0 : Nat} {a0 : Nat} {a1 : Int32} {a2 : Int32} {κ : zS} {Q : Int32 → zS → Prop} (W : zW C n0 κ) (Ta0 : zT κ a0 = 7)  (hp : coI κ (zR κ maCode a0)) (h : ∀ (v : Int32), (v = -1 ∨ (0 ≤ v.toInt ∧ v.toInt < 34)) → Q v κ) : zRun C 0 mMa_cellAt [.ref a0, .int a1, .int a2] κ (oI Q noX) := by
  refine Ma_cellAt_run W Ta0 ?_
  replace W := W.lo (Nat.le_trans W.1.2.1 W.1.2.2) (Nat.le_refl (zn κ))
  unfold w_Ma_cellAt_0
  have H := hp.1
  have V := hp.2.1
  have B := hp.2.2.2.2.2.2.2.2
  have hj31 : ∀ (l0 : Nat) (l1 : Int32) (l2 : Int32) (s0 : Int32) (τ : zS), zW C (zn κ) τ → zT τ l0 = 7 → (κ = τ ∧ a0 = l0 ∧ a1 = l1 ∧ a2 = l2 ∧ (s0 = 0 ∨ (0 ≤ a1.toInt ∧ a1.toInt < 3 ∧ 0 ≤ a2.toInt ∧ a2.toInt < (zA κ (zR κ coArraySizes (zR κ maCode a0)) a1.toNatClampNeg).toInt))) → w_Ma_cellAt_31 C (zn κ) Q  l0 l1 l2 s0 τ := by
    rintro _ _ _ y31_s0 _ W31 T31_0 ⟨rfl, rfl, rfl, rfl, j31⟩
    unfold w_Ma_cellAt_31
    refine ⟨fun c1 => ?_, fun c1 => ?_⟩
    · skip
      refine h _ ?_
      · exact Or.inl rfl  -- q1
    · skip
      have J := j31.resolve_left c1
      have kn := cnk (x := a1) J.1
      have b9 := B a1.toNatClampNeg (by omega)
      refine ⟨?_, ?_⟩
      · rw [inb_iff]; omega  -- b2
      refine h _ ?_
      · right
        have e1 : (zI κ coVars (zR κ maCode a0) + zA κ (zR κ coArrayBases (zR κ maCode a0)) a1.toNatClampNeg).toInt = (zI κ coVars (zR κ maCode a0)).toInt + (zA κ (zR κ coArrayBases (zR κ maCode a0)) a1.toNatClampNeg).toInt := add_i (by omega) (by omega)
        rw [add_i (by rw [e1]; omega) (by rw [e1]; omega), e1]
        omega
  refine ⟨fun c2 => ?_, fun c2 => ?_⟩
  · skip
    refine hj31 _ _ _ _ _ W ?_ ?_
    · exact Ta0  -- t4
    · first | exact ⟨rfl, rfl, rfl, rfl, Or.inl rfl⟩ | exact ⟨rfl, rfl, rfl, rfl, Or.inr (by simp only [lti, lei, t0i, show (3 : Int32).toInt = 3 from rfl] at *; omega)⟩  -- k5
  · skip
    refine ⟨fun c3 => ?_, fun c3 => ?_⟩
    · skip
      refine hj31 _ _ _ _ _ W ?_ ?_
      · exact Ta0  -- t6
      · first | exact ⟨rfl, rfl, rfl, rfl, Or.inl rfl⟩ | exact ⟨rfl, rfl, rfl, rfl, Or.inr (by simp only [lti, lei, t0i, show (3 : Int32).toInt = 3 from rfl] at *; omega)⟩  -- k7
    · skip
      refine ⟨fun c4 => ?_, fun c4 => ?_⟩
      · skip
        refine hj31 _ _ _ _ _ W ?_ ?_
        · exact Ta0  -- t8
        · first | exact ⟨rfl, rfl, rfl, rfl, Or.inl rfl⟩ | exact ⟨rfl, rfl, rfl, rfl, Or.inr (by simp only [lti, lei, t0i, show (3 : Int32).toInt = 3 from rfl] at *; omega)⟩  -- k9
      · skip
        refine ⟨?_, ?_⟩
        · rw [inb_iff]
          simp only [lti, lei, t0i, show (3 : Int32).toInt = 3 from rfl] at *
          omega
        refine ⟨fun c5 => ?_, fun c5 => ?_⟩
        · skip
          refine hj31 _ _ _ _ _ W ?_ ?_
          · exact Ta0  -- t11
          · first | exact ⟨rfl, rfl, rfl, rfl, Or.inl rfl⟩ | exact ⟨rfl, rfl, rfl, rfl, Or.inr (by simp only [lti, lei, t0i, show (3 : Int32).toInt = 3 from rfl] at *; omega)⟩  -- k12
        · skip
          refine hj31 _ _ _ _ _ W ?_ ?_
          · exact Ta0  -- t13
          · first | exact ⟨rfl, rfl, rfl, rfl, Or.inl rfl⟩ | exact ⟨rfl, rfl, rfl, rfl, Or.inr (by simp only [lti, lei, t0i, show (3 : Int32).toInt = 3 from rfl] at *; omega)⟩  -- k14

theorem Ma_put_c {C : zC} {n0 : Nat} {a0 : Nat} {a1 : Int32} {a2 : Int32} {κ : zS} {Q : zS → Prop} (W : zW C n0 κ) (Ta0 : zT κ a0 = 7)  (hp : maL κ a0) (h : ∀ (κ' : zS), (zF (oneF maMemory a0) κ κ' ∧ zI κ' = zI κ ∧ zR κ' = zR κ ∧ zN κ' = zN κ ∧ (∀ x, x ≠ zR κ maMemory a0 → zA κ' x = zA κ x) ∧ zR κ maWeights a0 ≠ zR κ maMemory a0) → Q κ') : zRun C 0 mMa_put [.ref a0, .int a1, .int a2] κ (oV Q noX) := by
  refine Ma_put_run W Ta0 ?_
  replace W := W.lo (Nat.le_trans W.1.2.1 W.1.2.2) (Nat.le_refl (zn κ))
  unfold w_Ma_put_0
  have B := W.n (ty_maMemory W Ta0)
  have nw : zR κ maWeights a0 ≠ zR κ maMemory a0 := ow_ne W (show zr maWeights = some 20 by decide +kernel) (by decide) Ta0 (show zr maMemory = some 20 by decide +kernel) (by decide) Ta0 (by decide)
  refine ⟨fun c1 => ?_, fun c1 => ?_⟩
  · skip
    refine h _ ?_
    · exact ⟨zF.rf, rfl, rfl, rfl, fun _ _ => rfl, nw⟩  -- q1
  · skip
    refine ⟨fun c2 => ?_, fun c2 => ?_⟩
    · skip
      refine h _ ?_
      · exact ⟨zF.rf, rfl, rfl, rfl, fun _ _ => rfl, nw⟩  -- q2
    · skip
      refine ⟨?_, ?_⟩
      · rw [lti, t0i] at c1
        rw [lei, ofn_i B] at c2
        rw [inb_iff]; omega
      intro κ_3 hκ_3
      intro W4
      refine h _ ?_
      · refine ⟨?_, by rw [hκ_3]; rfl, by rw [hκ_3]; rfl, by rw [hκ_3]; rfl, fun x h => by rw [hκ_3]; exact if_neg h, nw⟩
        rw [hκ_3]; exact zF_ua (by rw [ow_maMemory W Ta0]; exact ⟨rfl, rfl⟩)

theorem Ma_fetch_c {C : zC} {n0 : Nat} {a0 : Nat} {a1 : Int32} {a2 : Int32} {κ : zS} {Q : Int32 → zS → Prop} (W : zW C n0 κ) (Ta0 : zT κ a0 = 7)  (hp : maL κ a0) (h : ∀ (v : Int32), (True) → Q v κ) : zRun C 0 mMa_fetch [.ref a0, .int a1, .int a2] κ (oI Q noX) := by
  refine Ma_fetch_run W Ta0 ?_
  replace W := W.lo (Nat.le_trans W.1.2.1 W.1.2.2) (Nat.le_refl (zn κ))
  unfold w_Ma_fetch_0
  have B := W.n (ty_maMemory W Ta0)
  have hj24 : ∀ (l0 : Nat) (s0 : Int32) (τ : zS), zW C (zn κ) τ → zT τ l0 = 7 → (κ = τ ∧ a0 = l0 ∧ True) → w_Ma_fetch_24 C (zn κ) Q  l0 s0 τ := by
    rintro _ y24_s0 _ W24 T24_0 ⟨rfl, rfl, j24⟩
    unfold w_Ma_fetch_24
    refine ⟨fun c1 => ?_, fun c1 => ?_⟩
    · skip
      refine h _ ?_
      · trivial  -- q1
    · skip
      refine ⟨fun c2 => ?_, fun c2 => ?_⟩
      · skip
        refine h _ ?_
        · trivial  -- q2
      · skip
        refine ⟨?_, ?_⟩
        · simp only [lti, lei, t0i, ofn_i B] at *
          rw [inb_iff]; omega
        refine h _ ?_
        · trivial  -- q4
  refine ⟨fun c3 => ?_, fun c3 => ?_⟩
  · skip
    refine ⟨fun c4 => ?_, fun c4 => ?_⟩
    · skip
      refine hj24 _ _ _ W ?_ ?_
      · exact Ta0  -- t5
      · exact ⟨rfl, rfl, trivial⟩  -- k6
    · skip
      refine hj24 _ _ _ W ?_ ?_
      · exact Ta0  -- t7
      · exact ⟨rfl, rfl, trivial⟩  -- k8
  · skip
    refine h _ ?_
    · trivial  -- q9

theorem Ma_combine_c {C : zC} {n0 : Nat} {a0 : Int32} {a1 : Int32} {a2 : Int32} {κ : zS} {Q : Int32 → zS → Prop} (W : zW C n0 κ)   (h : ∀ (v : Int32), (True) → Q v κ) : zRun C 0 mMa_combine [.int a0, .int a1, .int a2] κ (oI Q noX) := by
  refine Ma_combine_run W  ?_
  replace W := W.lo (Nat.le_trans W.1.2.1 W.1.2.2) (Nat.le_refl (zn κ))
  unfold w_Ma_combine_0
  refine ⟨fun c1 => ?_, fun c1 => ?_, fun c1 => ?_, fun c1 => ?_, fun c1 => ?_, fun c1 => ?_, fun c1 => ?_, fun c1 => ?_, fun c1 => ?_, fun c1 => ?_, fun c1 => ?_, fun c1 => ?_, fun c1 => ?_⟩
  · skip
    refine ⟨fun c2 => ?_, fun c2 => ?_⟩
    · skip
      refine h _ ?_
      · first | trivial | assumption  -- q1
    · skip
      refine ⟨?_, ?_⟩
      · first | trivial | assumption  -- b2
      refine h _ ?_
      · first | trivial | assumption  -- q3
  · skip
    refine ⟨fun c3 => ?_, fun c3 => ?_⟩
    · skip
      refine h _ ?_
      · first | trivial | assumption  -- q4
    · skip
      refine ⟨fun c4 => ?_, fun c4 => ?_⟩
      · skip
        refine h _ ?_
        · first | trivial | assumption  -- q5
      · skip
        refine h _ ?_
        · first | trivial | assumption  -- q6
  · skip
    refine ⟨fun c5 => ?_, fun c5 => ?_⟩
    · skip
      refine h _ ?_
      · first | trivial | assumption  -- q7
    · skip
      refine ⟨fun c6 => ?_, fun c6 => ?_⟩
      · skip
        refine h _ ?_
        · first | trivial | assumption  -- q8
      · skip
        refine h _ ?_
        · first | trivial | assumption  -- q9
  · skip
    refine ⟨fun c7 => ?_, fun c7 => ?_⟩
    · skip
      refine h _ ?_
      · first | trivial | assumption  -- q10
    · skip
      refine h _ ?_
      · first | trivial | assumption  -- q11
  · skip
    refine ⟨fun c8 => ?_, fun c8 => ?_⟩
    · skip
      refine h _ ?_
      · first | trivial | assumption  -- q12
    · skip
      refine h _ ?_
      · first | trivial | assumption  -- q13
  · skip
    refine ⟨fun c9 => ?_, fun c9 => ?_⟩
    · skip
      refine h _ ?_
      · first | trivial | assumption  -- q14
    · skip
      refine h _ ?_
      · first | trivial | assumption  -- q15
  · skip
    refine ⟨fun c10 => ?_, fun c10 => ?_⟩
    · skip
      refine h _ ?_
      · first | trivial | assumption  -- q16
    · skip
      refine h _ ?_
      · first | trivial | assumption  -- q17
  · skip
    refine ⟨fun c11 => ?_, fun c11 => ?_⟩
    · skip
      refine h _ ?_
      · first | trivial | assumption  -- q18
    · skip
      refine h _ ?_
      · first | trivial | assumption  -- q19
  · skip
    refine ⟨fun c12 => ?_, fun c12 => ?_⟩
    · skip
      refine h _ ?_
      · first | trivial | assumption  -- q20
    · skip
      refine h _ ?_
      · first | trivial | assumption  -- q21
  · skip
    refine h _ ?_
    · first | trivial | assumption  -- q22
  · skip
    refine h _ ?_
    · first | trivial | assumption  -- q23
  · skip
    refine h _ ?_
    · first | trivial | assumption  -- q24
  · skip
    refine ⟨fun c13 => ?_, fun c13 => ?_⟩
    · skip
      refine h _ ?_
      · first | trivial | assumption  -- q25
    · skip
      refine ⟨?_, ?_⟩
      · first | trivial | assumption  -- b26
      refine h _ ?_
      · first | trivial | assumption  -- q27

theorem Ma_wayAt_c {C : zC} {n0 : Nat} {a0 : Nat} {a1 : Int64} {κ : zS} {Q : Int32 → zS → Prop} (W : zW C n0 κ) (Ta0 : zT κ a0 = 7)  (hp : maL κ a0 ∧ (zI κ maWays a0).toInt ≤ 64) (h : ∀ (v : Int32), (0 ≤ v.toInt ∧ (v = 0 ∨ v.toInt < (zI κ maWays a0).toInt)) → Q v κ) : zRun C 0 mMa_wayAt [.ref a0, .long a1] κ (oI Q noX) := by
  refine Ma_wayAt_run W Ta0 ?_
  replace W := W.lo (Nat.le_trans W.1.2.1 W.1.2.2) (Nat.le_refl (zn κ))
  unfold w_Ma_wayAt_0
  obtain ⟨H, p0⟩ := hp
  have B := H.2.2.2.2
  have hj18 : ∀ (l0 : Nat) (s0 : Int64) (τ : zS), zW C (zn κ) τ → zT τ l0 = 7 → (κ = τ ∧ a0 = l0 ∧ True) → w_Ma_wayAt_18 C (zn κ) Q  l0 s0 τ := by
    rintro _ y18_s0 _ W18 T18_0 ⟨rfl, rfl, j18⟩
    unfold w_Ma_wayAt_18
    unfold w_Ma_wayAt_25
    refine ⟨fun n l0 l3 l5 l7 τ => n = ((zI κ maWays a0).toInt - l7.toInt).toNat ∧ (κ = τ ∧ a0 = l0 ∧ 0 ≤ l7.toInt), ⟨_, rfl, ?_⟩, ?_⟩
    · exact ⟨rfl, rfl, by decide⟩  -- j1
    rintro n25 _ x25_3 x25_5 x25_7 _ W25 T25_0 ⟨hn25, rfl, rfl, i25⟩
    refine ⟨fun c1 => ?_, fun c1 => ?_⟩
    · skip
      refine h _ ?_
      · exact ⟨by decide, Or.inl rfl⟩  -- q2
    · skip
      have d1 : x25_7.toInt < (zI κ maWays a0).toInt := by rw [lei] at c1; omega
      have e1 := inc_i (x := x25_7) (y := zI κ maWays a0) i25 d1
      refine ⟨?_, ?_⟩
      · rw [inb_iff]; omega  -- b3
      intro x2 hx2
      refine ⟨fun c3 => ?_, fun c3 => ?_⟩
      · skip
        intro x4 hx4
        refine ⟨_, ?_, rfl, ?_⟩
        · rw [hn25, hx4, e1]; omega  -- d4
        · exact ⟨rfl, rfl, by rw [hx4, e1]; omega⟩  -- i5
      · skip
        refine h _ ?_
        · exact ⟨i25, Or.inr d1⟩  -- q6
  refine ⟨fun c5 => ?_, fun c5 => ?_⟩
  · skip
    refine hj18 _ _ _ W ?_ ?_
    · exact Ta0  -- t7
    · exact ⟨rfl, rfl, trivial⟩  -- k8
  · skip
    refine ⟨?_, ?_⟩
    · intro e
      have e9 := congrArg Int64.toInt e
      rw [Int32.toInt_toInt64] at e9
      rw [lei, t0i] at c5
      have z9 : (0 : Int64).toInt = 0 := rfl
      rw [z9] at e9
      omega
    refine hj18 _ _ _ W ?_ ?_
    · exact Ta0  -- t10
    · exact ⟨rfl, rfl, trivial⟩  -- k11

end
section
set_option maxHeartbeats 1600000
/-! the class: Machine's work -/
/-- a method touched one machine alone, made nothing, and kept its ways few -/
def mF (κ τ : zS) (m : Nat) : Prop := zF (objF m) κ τ ∧ zR τ = zR κ ∧ zN τ = zN κ ∧ ((zI κ maWays m).toInt ≤ 64 → (zI τ maWays m).toInt ≤ 64)
/-- where the machine stands is the same; what it draws from is the same -/
def mS0 (κ τ : zS) (m : Nat) : Prop := ∀ f, f ≤ maFrame → zI τ f m = zI κ f m
def mG (κ τ : zS) (m : Nat) : Prop := ∀ f, maWants ≤ f → zI τ f m = zI κ f m ∧ (f = maWeights → zR τ f m = zR κ f m ∧ zA τ (zR κ f m) = zA κ (zR κ f m))
def mS (κ τ : zS) (m : Nat) : Prop := mS0 κ τ m ∧ mG κ τ m
theorem mS0.rf {κ : zS} {m : Nat} : mS0 κ κ m := fun _ _ => rfl
theorem mS0.tr {κ τ σ : zS} {m : Nat} (h : mS0 κ τ m) (g : mS0 τ σ m) : mS0 κ σ m := fun f z => (g f z).trans (h f z)
theorem mG.rf {κ : zS} {m : Nat} : mG κ κ m := fun _ _ => ⟨rfl, fun _ => ⟨rfl, rfl⟩⟩
theorem mG.tr {κ τ σ : zS} {m : Nat} (h : mG κ τ m) (g : mG τ σ m) : mG κ σ m := fun f z => ⟨(g f z).1.trans (h f z).1, fun e => by
  have a := (h f z).2 e
  have b := (g f z).2 e
  rw [a.1] at b
  exact ⟨b.1, b.2.trans a.2⟩⟩
theorem mF.rf {κ : zS} {m : Nat} : mF κ κ m := ⟨zF.rf, rfl, rfl, id⟩
theorem mF.tr {κ τ σ : zS} {m : Nat} (h : mF κ τ m) (g : mF τ σ m) : mF κ σ m := ⟨h.1.tr g.1, g.2.1.trans h.2.1, g.2.2.1.trans h.2.2.1, fun z => g.2.2.2 (h.2.2.2 z)⟩
theorem mS.rf {κ : zS} {m : Nat} : mS κ κ m := ⟨mS0.rf, mG.rf⟩
theorem mS.tr {κ τ σ : zS} {m : Nat} (h : mS κ τ m) (g : mS τ σ m) : mS κ σ m := ⟨h.1.tr g.1, h.2.tr g.2⟩
theorem mF_ui {κ τ : zS} {m f : Nat} {x : Int32} (e : τ = ui κ f m x) (h : f ≠ maWays) : mF κ τ m := by
  refine ⟨by rw [e]; exact zF_ui rfl, by rw [e]; rfl, by rw [e]; rfl, fun z => ?_⟩
  have w : zI τ maWays m = zI κ maWays m := by rw [e]; exact if_neg (fun z => h z.1.symm)
  rw [w]; exact z
theorem mS0_ui {κ τ : zS} {m f : Nat} {x : Int32} (e : τ = ui κ f m x) (h : maFrame < f) : mS0 κ τ m := fun g z => by
  rw [e]; exact if_neg (fun q => by have := q.1; omega)
theorem mG_ui {κ τ : zS} {m f : Nat} {x : Int32} (e : τ = ui κ f m x) (h : f < maWants) : mG κ τ m := fun g z => ⟨by
  rw [e]; exact if_neg (fun q => by have := q.1; omega), fun _ => by rw [e]; exact ⟨rfl, rfl⟩⟩
theorem mS_ui {κ τ : zS} {m f : Nat} {x : Int32} (e : τ = ui κ f m x) (h : maFrame < f ∧ f < maWants) : mS κ τ m := ⟨mS0_ui e h.1, mG_ui e h.2⟩
theorem mF_ub {C : zC} {n0 m f i t : Nat} {κ τ : zS} {x : Int32} (W : zW C n0 κ) (T : zT κ m = f / 100) (hr : zr f = some t) (ht : 20 ≤ t) (e : τ = ua κ (zR κ f m) i x) : mF κ τ m ∧ mS0 κ τ m ∧ zI τ = zI κ :=
  ⟨⟨by rw [e]; exact zF_ua (by rw [W.o hr ht T]), by rw [e]; rfl, by rw [e]; rfl, fun z => by rw [e]; exact z⟩, fun g _ => by rw [e]; rfl, by rw [e]; rfl⟩
theorem ne_w {C : zC} {n0 m f t : Nat} {κ : zS} (W : zW C n0 κ) (T : zT κ m = 7) (hf : f / 100 = 7) (hr : zr f = some t) (ht : 20 ≤ t) (hw : f ≠ maWeights) : zR κ maWeights m ≠ zR κ f m := ow_ne W (show zr maWeights = some 20 by decide +kernel) (by decide) T hr ht (T.trans hf.symm) (fun z => hw z.symm)
theorem mF_ua {C : zC} {n0 m f i t : Nat} {κ τ : zS} {x : Int32} (W : zW C n0 κ) (T : zT κ m = 7) (hr : zr f = some t) (ht : 20 ≤ t) (e : τ = ua κ (zR κ f m) i x) (hf : f / 100 = 7 := by decide) (hw : f ≠ maWeights := by decide) : mF κ τ m ∧ mS κ τ m ∧ zI τ = zI κ := by
  obtain ⟨f1, f2, f3⟩ := mF_ub W (T.trans hf.symm) hr ht e
  refine ⟨f1, ⟨f2, fun g _ => ⟨by rw [f3], fun eg => ?_⟩⟩, f3⟩
  rw [eg, e]
  exact ⟨rfl, if_neg (ne_w W T hf hr ht hw)⟩
/-- what a Code is stays, where its fields and rows are not touched -/
theorem coI_zF {C : zC} {n0 c : Nat} {F : Nat → Nat → Prop} {κ τ : zS} (Z : zF F κ τ) (W : zW C n0 κ) (T : zT κ c = 5) (hF : ∀ f, ¬ F f c) (H : coI κ c) : coI τ c := by
  refine coI_g H (fun f _ => Z.i (hF f)) (fun f _ => Z.r (hF f)) (fun f hf => Z.l (coRf_t W T hf)) (fun f hf => ?_)
  have m : f ∈ coRf := by rcases hf with rfl | rfl <;> decide
  have r := (Z.row W (coRf_r f m).1 (by decide) (T.trans (coRf_r f m).2.symm) (hF f)).1
  rw [Z.r (hF f)] at r
  exact r
def mkI (κ : zS) (m : Nat) : Prop := maL κ m ∧ coI κ (zR κ maCode m)
theorem mkI_f {C : zC} {n0 m : Nat} {κ τ : zS} (h : mF κ τ m) (W : zW C n0 κ) (T : zT κ m = 7) (H : mkI κ m) : mkI τ m ∧ zI τ coLength (zR τ maCode m) = zI κ coLength (zR κ maCode m) := by
  have T5 : zT κ (zR κ maCode m) = 5 := ty_maCode W T
  have ne : ∀ f, ¬ objF m f (zR κ maCode m) := fun f e => by
    have e : zR κ maCode m = m := e
    rw [e, T] at T5
    exact absurd T5 (by decide)
  refine ⟨⟨?_, ?_⟩, ?_⟩
  · unfold maL; rw [h.2.1, h.2.2.1]; exact H.1
  · rw [h.2.1]; exact coI_zF h.1 W T5 ne H.2
  · rw [h.2.1]; exact h.1.i (ne coLength)
theorem mF_fail {κ τ : zS} {m : Nat} {w : Int32} (h : zF (objF m) κ τ ∧ zR τ = zR κ ∧ zN τ = zN κ ∧ zA τ = zA κ ∧ (∀ f b, ¬ (f = maFailure ∧ b = m) → ¬ (f = maOutcome ∧ b = m) → zI τ f b = zI κ f b) ∧ zI τ maFailure m = w ∧ zI τ maOutcome m = 2) : mF κ τ m ∧ mS κ τ m := by
  refine ⟨⟨h.1, h.2.1, h.2.2.1, fun z => ?_⟩, fun f z => h.2.2.2.2.1 f m (fun e => absurd (e.1 ▸ z) (by decide)) (fun e => absurd (e.1 ▸ z) (by decide)), fun f z => ⟨h.2.2.2.2.1 f m (fun e => absurd (e.1 ▸ z) (by decide)) (fun e => absurd (e.1 ▸ z) (by decide)), fun _ => ⟨by rw [h.2.1], by rw [h.2.2.2.1]⟩⟩⟩
  rw [h.2.2.2.2.1 maWays m (fun e => absurd e.1 (by decide)) (fun e => absurd e.1 (by decide))]
  exact z
def wkJ (κ τ : zS) (m : Nat) (p d : Int32) : Prop := (mF κ τ m ∧ mS κ τ m) ∧ (0 ≤ d.toInt ∧ d.toInt ≤ 256) ∧ zI τ maPc m = p ∧ 0 ≤ p.toInt ∧ p.toInt < (zI κ coLength (zR κ maCode m)).toInt
theorem wkS {C : zC} {n0 m i : Nat} {κ τ σ : zS} {p d d' x : Int32} (J : wkJ κ τ m p d) (W : zW C n0 τ) (T : zT τ m = 7) (e : σ = ua τ (zR τ maStack m) i x) (h0 : 0 ≤ d'.toInt) (h1 : d'.toInt ≤ 256) : zT σ m = 7 ∧ wkJ κ σ m p d' := by
  obtain ⟨f1, f2, f3⟩ := mF_ua W T (show zr maStack = some 20 by decide +kernel) (by decide) e
  exact ⟨f1.1.t T (by decide), ⟨J.1.1.tr f1, J.1.2.tr f2⟩, ⟨h0, h1⟩, by rw [f3]; exact J.2.2.1, J.2.2.2⟩
theorem dec_i {x : Int32} (h : 0 < x.toInt) : (x - 1).toInt = x.toInt - 1 := by
  have := ihi x
  rw [sub_i (by rw [t1i]; omega) (by rw [t1i]; omega), t1i]
theorem Ma_work_c {C : zC} {n0 : Nat} {a0 : Nat} {κ : zS} {Q : Int32 → zS → Prop} (W : zW C n0 κ) (Ta0 : zT κ a0 = 7)  (hp : mkI κ a0) (h : ∀ (v : Int32) (κ' : zS), (mF κ κ' a0 ∧ mS κ κ' a0) → Q v κ') : zRun C 1 mMa_work [.ref a0] κ (oI Q noX) := by
  refine Ma_work_run W Ta0 ?_
  replace W := W.lo (Nat.le_trans W.1.2.1 W.1.2.2) (Nat.le_refl (zn κ))
  unfold w_Ma_work_0
  unfold w_Ma_work_2
  refine ⟨fun n l0 l1 τ => n = ((zI κ coLength (zR κ maCode a0)).toInt - (zI τ maPc a0).toInt).toNat ∧ (a0 = l0 ∧ (mF κ τ a0 ∧ mS κ τ a0) ∧ 0 ≤ l1.toInt ∧ l1.toInt ≤ 256), ⟨_, rfl, ?_⟩, ?_⟩
  · exact ⟨rfl, ⟨mF.rf, mS.rf⟩, by decide, by decide⟩  -- j1
  rintro n2 _ x2_1 κ2 W2 T2_0 ⟨hn2, rfl, i2⟩
  have hj278 : ∀ (l0 : Nat) (l1 : Int32) (τ : zS), zW C (zn κ) τ → zT τ l0 = 7 → (a0 = l0 ∧ wkJ κ τ a0 (zI κ2 maPc a0) l1) → w_Ma_work_278 C (zn κ) Q (fun (l0' : Nat) (l1' : Int32) (τ : zS) => ∃ k < n2, (fun (n : Nat) (l0 : Nat) (l1 : Int32) (τ : zS) => n = ((zI κ coLength (zR κ maCode a0)).toInt - (zI τ maPc a0).toInt).toNat ∧ (a0 = l0 ∧ (mF κ τ a0 ∧ mS κ τ a0) ∧ 0 ≤ l1.toInt ∧ l1.toInt ≤ 256)) k l0' l1' τ) l0 l1 τ := by
    rintro _ y278_1 τ278 W278 T278_0 ⟨rfl, j278⟩
    unfold w_Ma_work_278
    intro κ_1 hκ_1
    intro W2
    refine ⟨_, ?_, rfl, ?_⟩
    · have e : zI κ_1 maPc a0 = zI κ2 maPc a0 + 1 := by
        rw [hκ_1]
        refine (if_pos ⟨rfl, rfl⟩).trans ?_
        rw [j278.2.2.1]
      have b := j278.2.2.2
      have e1 := inc_i (x := zI κ2 maPc a0) b.1 b.2
      rw [hn2, e, e1]; omega
    · exact ⟨rfl, ⟨j278.1.1.tr (mF_ui hκ_1 (by decide)), j278.1.2.tr (mS_ui hκ_1 (by decide))⟩, j278.2.1⟩  -- i3
  have hj252 : ∀ (l0 : Nat) (l1 : Int32) (l2 : Int32) (τ : zS), zW C (zn κ) τ → zT τ l0 = 7 → (a0 = l0 ∧ wkJ κ τ a0 (zI κ2 maPc a0) l1 ∧ l1.toInt ≤ 255 ∧ 1 ≤ l1.toInt) → w_Ma_work_252 C (zn κ) Q (fun (l0' : Nat) (l1' : Int32) (τ : zS) => ∃ k < n2, (fun (n : Nat) (l0 : Nat) (l1 : Int32) (τ : zS) => n = ((zI κ coLength (zR κ maCode a0)).toInt - (zI τ maPc a0).toInt).toNat ∧ (a0 = l0 ∧ (mF κ τ a0 ∧ mS κ τ a0) ∧ 0 ≤ l1.toInt ∧ l1.toInt ≤ 256)) k l0' l1' τ) l0 l1 l2 τ := by
    rintro _ y252_1 y252_2 τ252 W252 T252_0 ⟨rfl, j252⟩
    unfold w_Ma_work_252
    obtain ⟨J, u1, u2⟩ := j252
    have L := (mkI_f J.1.1 W Ta0 hp).1.1.2.1
    have e1 := dec_i (x := y252_1) (by omega)
    refine ⟨?_, ?_⟩
    · rw [inb_iff, e1]; omega  -- b4
    refine ⟨?_, ?_⟩
    · rw [inb_iff]; omega  -- b5
    refine Ma_combine_c W252   (fun r3 q5 => ?_)
    intro W6
    intro M7
    refine ⟨?_, ?_⟩
    · rw [inb_iff, e1]; omega  -- b6
    intro κ_8 hκ_8
    intro W9
    refine hj278 _ _ _ W9 ?_ ?_
    · exact (wkS J W252 T252_0 hκ_8 J.2.1.1 J.2.1.2).1  -- t7
    · exact ⟨rfl, (wkS J W252 T252_0 hκ_8 J.2.1.1 J.2.1.2).2⟩  -- k8
  have hj222 : ∀ (l0 : Nat) (l1 : Int32) (l2 : Int32) (τ : zS), zW C (zn κ) τ → zT τ l0 = 7 → (a0 = l0 ∧ wkJ κ τ a0 (zI κ2 maPc a0) l1) → w_Ma_work_222 C (zn κ) Q (fun (l0' : Nat) (l1' : Int32) (τ : zS) => ∃ k < n2, (fun (n : Nat) (l0 : Nat) (l1 : Int32) (τ : zS) => n = ((zI κ coLength (zR κ maCode a0)).toInt - (zI τ maPc a0).toInt).toNat ∧ (a0 = l0 ∧ (mF κ τ a0 ∧ mS κ τ a0) ∧ 0 ≤ l1.toInt ∧ l1.toInt ≤ 256)) k l0' l1' τ) l0 l1 l2 τ := by
    rintro _ y222_1 y222_2 τ222 W222 T222_0 ⟨rfl, j222⟩
    unfold w_Ma_work_222
    refine ⟨fun c10 => ?_, fun c10 => ?_⟩
    · skip
      refine hj278 _ _ _ W222 ?_ ?_
      · exact T222_0  -- t9
      · exact ⟨rfl, j222⟩  -- k10
    · skip
      intro x11 hx11
      have L := (mkI_f j222.1.1 W Ta0 hp).1.1.2.1
      have D := j222.2.1
      have f1 : (-1 : Int32).toInt = -1 := rfl
      have c9 : 1 < y222_1.toInt := by rw [lei, t1i] at c10; omega
      have em : x11.toInt = y222_1.toInt - 1 := by rw [hx11, add_i (by rw [f1]; omega) (by rw [f1]; omega), f1]; omega
      refine ⟨fun c12 => ?_, fun c12 => ?_⟩
      · skip
        refine hj252 _ _ _ _ W222 ?_ ?_
        · exact T222_0  -- t11
        · exact ⟨rfl, ⟨j222.1, ⟨by omega, by omega⟩, j222.2.2⟩, by omega, by omega⟩  -- k12
      · skip
        refine ⟨?_, ?_⟩
        · rw [inb_iff]; omega  -- b13
        refine ⟨fun c13 => ?_, fun c13 => ?_⟩
        · skip
          refine hj252 _ _ _ _ W222 ?_ ?_
          · exact T222_0  -- t14
          · exact ⟨rfl, ⟨j222.1, ⟨by omega, by omega⟩, j222.2.2⟩, by omega, by omega⟩  -- k15
        · skip
          intro κ_14 hκ_14
          intro W15
          refine h _ _ ?_
          · exact ⟨j222.1.1.tr (mF_ui hκ_14 (by decide)), j222.1.2.tr (mS_ui hκ_14 (by decide))⟩  -- q16
  have hj173 : ∀ (l0 : Nat) (l1 : Int32) (l2 : Int32) (τ : zS), zW C (zn κ) τ → zT τ l0 = 7 → (a0 = l0 ∧ wkJ κ τ a0 (zI κ2 maPc a0) l1) → w_Ma_work_173 C (zn κ) Q (fun (l0' : Nat) (l1' : Int32) (τ : zS) => ∃ k < n2, (fun (n : Nat) (l0 : Nat) (l1 : Int32) (τ : zS) => n = ((zI κ coLength (zR κ maCode a0)).toInt - (zI τ maPc a0).toInt).toNat ∧ (a0 = l0 ∧ (mF κ τ a0 ∧ mS κ τ a0) ∧ 0 ≤ l1.toInt ∧ l1.toInt ≤ 256)) k l0' l1' τ) l0 l1 l2 τ := by
    rintro _ y173_1 y173_2 τ173 W173 T173_0 ⟨rfl, j173⟩
    unfold w_Ma_work_173
    refine ⟨fun c16 => ?_, fun c16 => ?_⟩
    · skip
      refine hj222 _ _ _ _ W173 ?_ ?_
      · exact T173_0  -- t17
      · exact ⟨rfl, j173⟩  -- k18
    · skip
      refine ⟨fun c17 => ?_, fun c17 => ?_⟩
      · skip
        refine hj222 _ _ _ _ W173 ?_ ?_
        · exact T173_0  -- t19
        · exact ⟨rfl, j173⟩  -- k20
      · skip
        have L := (mkI_f j173.1.1 W Ta0 hp).1.1.2.1
        have D := j173.2.1
        have c9 : 0 < y173_1.toInt := by rw [lei, t0i] at c17; omega
        have e1 := dec_i c9
        refine ⟨?_, ?_⟩
        · rw [inb_iff, e1]; omega  -- b21
        intro x18 hx18
        refine ⟨fun c19 => ?_, fun c19 => ?_⟩
        · skip
          refine ⟨fun c20 => ?_, fun c20 => ?_⟩
          · skip
            refine ⟨?_, ?_⟩
            · rw [inb_iff, e1]; omega  -- b22
            intro κ_21 hκ_21
            intro W22
            refine hj278 _ _ _ W22 ?_ ?_
            · exact (wkS j173 W173 T173_0 hκ_21 D.1 D.2).1  -- t23
            · exact ⟨rfl, (wkS j173 W173 T173_0 hκ_21 D.1 D.2).2⟩  -- k24
          · skip
            refine ⟨?_, ?_⟩
            · rw [inb_iff, e1]; omega  -- b25
            intro κ_23 hκ_23
            intro W24
            refine hj278 _ _ _ W24 ?_ ?_
            · exact (wkS j173 W173 T173_0 hκ_23 D.1 D.2).1  -- t26
            · exact ⟨rfl, (wkS j173 W173 T173_0 hκ_23 D.1 D.2).2⟩  -- k27
        · skip
          refine ⟨?_, ?_⟩
          · rw [inb_iff, e1]; omega  -- b28
          intro κ_25 hκ_25
          intro W26
          refine hj278 _ _ _ W26 ?_ ?_
          · exact (wkS j173 W173 T173_0 hκ_25 D.1 D.2).1  -- t29
          · exact ⟨rfl, (wkS j173 W173 T173_0 hκ_25 D.1 D.2).2⟩  -- k30
  refine ⟨fun c27 => ?_, fun c27 => ?_⟩
  · skip
    refine h _ _ ?_
    · exact i2.1  -- q31
  · skip
    refine ⟨fun c28 => ?_, fun c28 => ?_⟩
    · skip
      refine h _ _ ?_
      · exact i2.1  -- q32
    · skip
      have I := mkI_f i2.1.1 W Ta0 hp
      have L := I.1.1.2.1
      have LM := I.1.1.1
      have D := i2.2
      have O := I.1.2.2.2.2.2.2.2.2.1
      have bN := W2.n (ty_maStack W2 T2_0)
      rw [lti, t0i] at c27
      rw [lei] at c28
      have J0 : wkJ κ κ2 a0 (zI κ2 maPc a0) x2_1 := ⟨i2.1, i2.2, rfl, by omega, by rw [← I.2]; omega⟩
      refine ⟨?_, ?_⟩
      · rw [inb_iff]; omega  -- b33
      intro x29 hx29
      refine ⟨fun c30 => ?_, fun c30 => ?_⟩
      · skip
        refine ⟨fun c31 => ?_, fun c31 => ?_⟩
        · skip
          refine ⟨fun c32 => ?_, fun c32 => ?_⟩
          · skip
            refine hj173 _ _ _ _ W2 ?_ ?_
            · exact T2_0  -- t34
            · exact ⟨rfl, J0⟩  -- k35
          · skip
            refine ⟨fun c33 => ?_, fun c33 => ?_⟩
            · skip
              refine hj173 _ _ _ _ W2 ?_ ?_
              · exact T2_0  -- t36
              · exact ⟨rfl, J0⟩  -- k37
            · skip
              have c9 : 0 < x2_1.toInt := by rw [lei, t0i] at c33; omega
              have e1 := dec_i c9
              refine ⟨?_, ?_⟩
              · rw [inb_iff]; omega  -- b38
              refine ⟨?_, ?_⟩
              · rw [inb_iff, e1]; omega  -- b39
              intro T34
              refine Ma_cellAt_c W2 T34  ?_ (fun r35 q37 => ?_)
              · exact I.1.2  -- p40
              intro W38
              intro M39
              refine ⟨fun c40 => ?_, fun c40 => ?_⟩
              · skip
                refine ⟨?_, ?_⟩
                · have r9 := q37.resolve_left c40
                  rw [inb_iff]; omega
                refine ⟨?_, ?_⟩
                · rw [inb_iff, e1]; omega  -- b42
                intro κ_41 hκ_41
                intro W42
                refine hj278 _ _ _ W42 ?_ ?_
                · exact (wkS J0 W2 T2_0 hκ_41 D.1 D.2).1  -- t43
                · exact ⟨rfl, (wkS J0 W2 T2_0 hκ_41 D.1 D.2).2⟩  -- k44
              · skip
                intro κ_43 hκ_43
                intro W44
                refine h _ _ ?_
                · exact ⟨i2.1.1.tr (mF_ui hκ_43 (by decide)), i2.1.2.tr (mS_ui hκ_43 (by decide))⟩  -- q45
        · skip
          refine ⟨fun c45 => ?_, fun c45 => ?_⟩
          · skip
            refine hj278 _ _ _ W2 ?_ ?_
            · exact T2_0  -- t46
            · exact ⟨rfl, J0⟩  -- k47
          · skip
            rw [lei, ofn_i bN] at c45
            have e1 : (x2_1 + 1).toInt = x2_1.toInt + 1 := by rw [add_i (by rw [t1i]; omega) (by rw [t1i]; omega), t1i]
            refine ⟨?_, ?_⟩
            · rw [inb_iff]; omega  -- b48
            intro T46
            refine Ma_fetch_c W2 T46  ?_ (fun r47 q49 => ?_)
            · exact I.1.1  -- p49
            intro W50
            intro M51
            refine ⟨?_, ?_⟩
            · rw [inb_iff]; omega  -- b50
            intro κ_52 hκ_52
            intro W53
            intro x54 hx54
            refine hj278 _ _ _ W53 ?_ ?_
            · exact (wkS J0 W2 T2_0 hκ_52 D.1 D.2).1  -- t51
            · exact ⟨rfl, (wkS J0 W2 T2_0 hκ_52 (by rw [hx54, e1]; omega) (by rw [hx54, e1]; omega)).2⟩  -- k52
      · skip
        intro κ_55 hκ_55
        intro W56
        refine ⟨fun c57 => ?_, fun c57 => ?_⟩
        · skip
          refine h _ _ ?_
          · exact ⟨i2.1.1.tr (mF_ui hκ_55 (by decide)), i2.1.2.tr (mS_ui hκ_55 (by decide))⟩  -- q53
        · skip
          refine ⟨?_, ?_⟩
          · have c9 : 0 < x2_1.toInt := by rw [lei, t0i] at c57; omega
            have e1 := dec_i c9
            rw [hκ_55]
            show inb _ (zN κ2 (zR κ2 maStack a0))
            rw [inb_iff, e1]; omega
          refine h _ _ ?_
          · exact ⟨i2.1.1.tr (mF_ui hκ_55 (by decide)), i2.1.2.tr (mS_ui hκ_55 (by decide))⟩  -- q55

end
section
set_option maxHeartbeats 1600000
/-! the class: Machine's aim, proceed, settle -/
/-- a machine that runs: its latest call lies in the memory -/
def mO (κ : zS) (m : Nat) : Prop := (0 ≤ (zI κ maShared m).toInt ∧ (zI κ maShared m).toInt ≤ 34) ∧ (1 ≤ (zI κ maOpen m).toInt ∧ (zI κ maShared m).toInt + 9 * (zI κ maOpen m).toInt ≤ 142) ∧ (zI κ maFrame m).toInt = (zI κ maShared m).toInt + 9 * ((zI κ maOpen m).toInt - 1)
theorem mO_0 {κ τ : zS} {m : Nat} (h : mS0 κ τ m) (H : mO κ m) : mO τ m := by
  unfold mO
  rw [h maShared (by decide), h maOpen (by decide), h maFrame (by decide)]
  exact H
theorem mO_s {κ τ : zS} {m : Nat} (h : mS κ τ m) (H : mO κ m) : mO τ m := mO_0 h.1 H
theorem mO_i {κ τ : zS} {m : Nat} (h : zI τ = zI κ) (H : mO κ m) : mO τ m := by
  unfold mO
  rw [h]
  exact H
theorem mF_put {κ τ : zS} {m : Nat} (q : zF (oneF maMemory m) κ τ ∧ zI τ = zI κ ∧ zR τ = zR κ ∧ zN τ = zN κ ∧ (∀ x, x ≠ zR κ maMemory m → zA τ x = zA κ x) ∧ zR κ maWeights m ≠ zR κ maMemory m) : mF κ τ m ∧ mS κ τ m ∧ zI τ = zI κ :=
  ⟨⟨q.1.mono (fun _ _ z => z.2), q.2.2.1, q.2.2.2.1, fun z => by rw [q.2.1]; exact z⟩, ⟨fun f _ => by rw [q.2.1], fun f _ => ⟨by rw [q.2.1], fun e => by rw [q.2.2.1, e]; exact ⟨rfl, q.2.2.2.2.1 _ q.2.2.2.2.2⟩⟩⟩, q.2.1⟩
theorem mO_pop {κ κ3 κ6 : zS} {m : Nat} (H : mO κ m) (h3 : κ3 = ui κ maOpen m (zI κ maOpen m - 1)) (c : (0 : Int32) < zI κ3 maOpen m) (h6 : κ6 = ui κ3 maFrame m (zI κ3 maFrame m - 9)) : mO κ6 m ∧ zI κ6 maShared m = zI κ maShared m := by
  have o3 : zI κ3 maOpen m = zI κ maOpen m - 1 := by rw [h3]; exact if_pos ⟨rfl, rfl⟩
  have o6 : zI κ6 maOpen m = zI κ3 maOpen m := by rw [h6]; rfl
  have f3 : zI κ3 maFrame m = zI κ maFrame m := by rw [h3]; rfl
  have f6 : zI κ6 maFrame m = zI κ maFrame m - 9 := by
    rw [h6]
    refine (if_pos ⟨rfl, rfl⟩).trans ?_
    rw [f3]
  have s6 : zI κ6 maShared m = zI κ maShared m := by rw [h6, h3]; rfl
  obtain ⟨s, o, f⟩ := H
  have eo := dec_i (x := zI κ maOpen m) (by omega)
  have e9 : (9 : Int32).toInt = 9 := rfl
  rw [o3, lti, t0i, eo] at c
  have ef : (zI κ maFrame m - 9).toInt = (zI κ maFrame m).toInt - 9 := by rw [sub_i (by rw [e9]; omega) (by rw [e9]; omega), e9]
  refine ⟨?_, s6⟩
  unfold mO
  rw [o6, o3, f6, s6, eo, ef]
  exact ⟨s, ⟨by omega, by omega⟩, by omega⟩
theorem Ma_aim_c {C : zC} {n0 : Nat} {a0 : Nat} {a1 : Int32} {κ : zS} {Q : zS → Prop} (W : zW C n0 κ) (Ta0 : zT κ a0 = 7)  (hp : mkI κ a0) (h : ∀ (κ' : zS), (mF κ κ' a0 ∧ mS κ κ' a0) → Q κ') : zRun C 2 mMa_aim [.ref a0, .int a1] κ (oV Q noX) := by
  refine Ma_aim_run W Ta0 ?_
  replace W := W.lo (Nat.le_trans W.1.2.1 W.1.2.2) (Nat.le_refl (zn κ))
  unfold w_Ma_aim_0
  have hj61 : ∀ (l0 : Nat) (s0 : Nat) (s1 : Int32) (τ : zS), zW C (zn κ) τ → zT τ l0 = 7 → zT τ s0 = 7 → (a0 = l0 ∧ mF κ τ a0 ∧ mS κ τ a0 ∧ s0 = a0) → w_Ma_aim_61 C (zn κ) Q  l0 s0 s1 τ := by
    rintro _ y61_s0 y61_s1 τ61 W61 T61_0 T61_1 ⟨rfl, j61⟩
    unfold w_Ma_aim_61
    intro κ_1 hκ_1
    intro W2
    refine ⟨fun c3 => ?_, fun c3 => ?_⟩
    · skip
      refine h _ ?_
      · obtain ⟨F, S, e⟩ := j61
        rw [e] at hκ_1
        exact ⟨F.tr (mF_ui hκ_1 (by decide)), S.tr (mS_ui hκ_1 (by decide))⟩
    · skip
      intro κ_4 hκ_4
      intro W5
      refine h _ ?_
      · obtain ⟨F, S, e⟩ := j61
        rw [e] at hκ_1
        exact ⟨(F.tr (mF_ui hκ_1 (by decide))).tr (mF_ui hκ_4 (by decide)), (S.tr (mS_ui hκ_1 (by decide))).tr (mS_ui hκ_4 (by decide))⟩
  intro T6
  refine Co_column_c W T6  ?_ (fun r7 q9 => ?_)
  · exact ⟨hp.2, by decide, by decide⟩  -- p3
  intro W10
  intro M11
  intro T12
  refine Co_column_c W10 T12  ?_ (fun r13 q15 => ?_)
  · exact ⟨hp.2, by decide, by decide⟩  -- p4
  intro W16
  intro M17
  refine ⟨fun c18 => ?_, fun c18 => ?_⟩
  · skip
    intro T19
    refine Ma_work_c W16 T19  ?_ (fun r20 κ_21 q22 => ?_)
    · exact hp  -- p5
    intro W23
    intro M24
    refine ⟨fun c25 => ?_, fun c25 => ?_⟩
    · skip
      refine hj61 _ _ _ _ W23 ?_ ?_ ?_
      · exact q22.1.1.t Ta0 (by decide)  -- t6
      · exact q22.1.1.t Ta0 (by decide)  -- t7
      · exact ⟨rfl, q22.1, q22.2, rfl⟩  -- k8
    · skip
      intro T26
      refine Ma_cellAt_c W23 T26  ?_ (fun r27 q29 => ?_)
      · exact (mkI_f q22.1 W Ta0 hp).1.2  -- p9
      intro W30
      intro M31
      refine hj61 _ _ _ _ W30 ?_ ?_ ?_
      · exact q22.1.1.t Ta0 (by decide)  -- t10
      · exact q22.1.1.t Ta0 (by decide)  -- t11
      · exact ⟨rfl, q22.1, q22.2, rfl⟩  -- k12
  · skip
    intro T32
    refine Ma_slot_c W16 T32  (fun r33 q35 => ?_)
    intro W36
    intro M37
    intro κ_38 hκ_38
    intro W39
    refine h _ ?_
    · exact ⟨mF_ui hκ_38 (by decide), mS_ui hκ_38 (by decide)⟩  -- q13

theorem Ma_proceed_c {C : zC} {n0 : Nat} {a0 : Nat} {κ : zS} {Q : zS → Prop} (W : zW C n0 κ) (Ta0 : zT κ a0 = 7)  (hp : mkI κ a0 ∧ mO κ a0) (h : ∀ (κ' : zS), (mF κ κ' a0 ∧ zI κ' maShared a0 = zI κ maShared a0 ∧ (mO κ' a0 ∨ zI κ' maOutcome a0 = 1) ∧ mG κ κ' a0) → Q κ') : zRun C 1 mMa_proceed [.ref a0] κ (oV Q noX) := by
  refine Ma_proceed_run W Ta0 ?_
  replace W := W.lo (Nat.le_trans W.1.2.1 W.1.2.2) (Nat.le_refl (zn κ))
  unfold w_Ma_proceed_0
  unfold w_Ma_proceed_2
  refine ⟨fun n l0 l1 τ => n = (13 - l1.toInt).toNat ∧ (a0 = l0 ∧ mF κ τ a0 ∧ zI τ maShared a0 = zI κ maShared a0 ∧ mO τ a0 ∧ 0 ≤ l1.toInt ∧ mG κ τ a0), ⟨_, rfl, ?_⟩, ?_⟩
  · exact ⟨rfl, mF.rf, rfl, hp.2, by decide, mG.rf⟩  -- j1
  rintro n2 _ x2_1 κ2 W2 T2_0 ⟨hn2, rfl, i2⟩
  refine ⟨fun c1 => ?_, fun c1 => ?_⟩
  · skip
    refine h _ ?_
    · exact ⟨i2.1, i2.2.1, Or.inl i2.2.2.1, i2.2.2.2.2⟩  -- q2
  · skip
    obtain ⟨F, eS, O, l0, G⟩ := i2
    have I := (mkI_f F W Ta0 hp.1).1
    have LM := I.1.1
    refine ⟨fun c2 => ?_, fun c2 => ?_⟩
    · skip
      intro κ_3 hκ_3
      intro W4
      refine ⟨fun c5 => ?_, fun c5 => ?_⟩
      · skip
        intro κ_6 hκ_6
        intro W7
        refine ⟨?_, ?_⟩
        · have P := mO_pop O hκ_3 c5 hκ_6
          have L := (mkI_f (F.tr ((mF_ui hκ_3 (by decide)).tr (mF_ui hκ_6 (by decide)))) W Ta0 hp.1).1.1.1
          obtain ⟨⟨s, o, f⟩, -⟩ := P
          rw [inb_iff]; omega
        intro x8 hx8
        intro T9
        refine Co_column_c W7 T9  ?_ (fun r10 q12 => ?_)
        · exact ⟨(mkI_f (F.tr ((mF_ui hκ_3 (by decide)).tr (mF_ui hκ_6 (by decide)))) W Ta0 hp.1).1.2, by decide, by decide⟩  -- p4
        intro W13
        intro M14
        intro T15
        refine Co_column_c W13 T15  ?_ (fun r16 q18 => ?_)
        · exact ⟨(mkI_f (F.tr ((mF_ui hκ_3 (by decide)).tr (mF_ui hκ_6 (by decide)))) W Ta0 hp.1).1.2, by decide, by decide⟩  -- p5
        intro W19
        intro M20
        intro T21
        refine Ma_slot_c W19 T21  (fun r22 q24 => ?_)
        intro W25
        intro M26
        intro T27
        refine Ma_put_c W25 T27  ?_ (fun κ_28 q29 => ?_)
        · exact (mkI_f (F.tr ((mF_ui hκ_3 (by decide)).tr (mF_ui hκ_6 (by decide)))) W Ta0 hp.1).1.1  -- p6
        intro W30
        intro M31
        intro T32
        refine Co_column_c W30 T32  ?_ (fun r33 q35 => ?_)
        · exact ⟨(mkI_f ((F.tr ((mF_ui hκ_3 (by decide)).tr (mF_ui hκ_6 (by decide)))).tr (mF_put q29).1) W Ta0 hp.1).1.2, by decide, by decide⟩  -- p7
        intro W36
        intro M37
        intro κ_38 hκ_38
        intro W39
        intro κ_40 hκ_40
        intro W41
        intro x42 hx42
        refine ⟨_, ?_, rfl, ?_⟩
        · have e12 : (12 : Int32).toInt = 12 := rfl
          rw [lti, e12] at c1
          have e1 : (x2_1 + 1).toInt = x2_1.toInt + 1 := by rw [add_i (by rw [t1i]; omega) (by rw [t1i]; omega), t1i]
          rw [hn2, hx42, e1]; omega
        · have e12 : (12 : Int32).toInt = 12 := rfl
          rw [lti, e12] at c1
          have e1 : (x2_1 + 1).toInt = x2_1.toInt + 1 := by rw [add_i (by rw [t1i]; omega) (by rw [t1i]; omega), t1i]
          have P := mO_pop O hκ_3 c5 hκ_6
          have F4 := (((F.tr ((mF_ui hκ_3 (by decide)).tr (mF_ui hκ_6 (by decide)))).tr (mF_put q29).1).tr (mF_ui hκ_38 (by decide))).tr (mF_ui hκ_40 (by decide))
          have S := ((mF_put q29).2.1.tr (mS_ui hκ_38 (by decide))).tr (mS_ui hκ_40 (by decide))
          exact ⟨rfl, F4, (S.1 maShared (by decide)).trans (P.2.trans eS), mO_s S P.1, by rw [hx42, e1]; omega, (G.tr ((mG_ui hκ_3 (by decide)).tr (mG_ui hκ_6 (by decide)))).tr S.2⟩
      · skip
        intro κ_43 hκ_43
        intro W44
        intro κ_45 hκ_45
        intro W46
        refine h _ ?_
        · have e : zI κ_45 maOutcome a0 = zI κ_43 maOutcome a0 := by rw [hκ_45]; rfl
          refine ⟨((F.tr (mF_ui hκ_3 (by decide))).tr (mF_ui hκ_43 (by decide))).tr (mF_ui hκ_45 (by decide)), by rw [hκ_45, hκ_43, hκ_3]; exact eS, Or.inr ?_, ((G.tr (mG_ui hκ_3 (by decide))).tr (mG_ui hκ_43 (by decide))).tr (mG_ui hκ_45 (by decide))⟩
          rw [e, hκ_43]
          exact if_pos ⟨rfl, rfl⟩
    · skip
      refine ⟨?_, ?_⟩
      · obtain ⟨s, o, f⟩ := O
        rw [inb_iff]; omega
      intro κ_47 hκ_47
      intro W48
      refine h _ ?_
      · obtain ⟨f1, f2, f3⟩ := mF_ua W2 T2_0 (show zr maMemory = some 20 by decide +kernel) (by decide) hκ_47
        exact ⟨F.tr f1, by rw [f3]; exact eS, Or.inl (mO_i f3 O), G.tr f2.2⟩

theorem Ma_settle_c {C : zC} {n0 : Nat} {a0 : Nat} {a1 : Int32} {κ : zS} {Q : zS → Prop} (W : zW C n0 κ) (Ta0 : zT κ a0 = 7)  (hp : mkI κ a0 ∧ mO κ a0 ∧ (zI κ maWays a0).toInt ≤ 64) (h : ∀ (κ' : zS), (mF κ κ' a0 ∧ zI κ' maShared a0 = zI κ maShared a0 ∧ (mO κ' a0 ∨ zI κ' maOutcome a0 = 1) ∧ mG κ κ' a0) → Q κ') : zRun C 2 mMa_settle [.ref a0, .int a1] κ (oV Q noX) := by
  refine Ma_settle_run W Ta0 ?_
  replace W := W.lo (Nat.le_trans W.1.2.1 W.1.2.2) (Nat.le_refl (zn κ))
  unfold w_Ma_settle_0
  have hj26 : ∀ (l0 : Nat) (τ : zS), zW C (zn κ) τ → zT τ l0 = 7 → (a0 = l0 ∧ mF κ τ a0 ∧ mS κ τ a0) → w_Ma_settle_26 C (zn κ) Q  l0 τ := by
    rintro _ τ26 W26 T26_0 ⟨rfl, j26⟩
    unfold w_Ma_settle_26
    obtain ⟨F, S⟩ := j26
    have I := (mkI_f F W Ta0 hp.1).1
    have O := mO_s S hp.2.1
    have LM := I.1.1
    refine ⟨?_, ?_⟩
    · obtain ⟨s, o, f⟩ := O
      rw [inb_iff]; omega
    intro T1
    refine Co_column_c W26 T1  ?_ (fun r2 q4 => ?_)
    · exact ⟨I.2, by decide, by decide⟩  -- p2
    intro W5
    intro M6
    intro κ_7 hκ_7
    intro W8
    intro κ_9 hκ_9
    intro W10
    intro T11
    refine Ma_proceed_c W10 T11  ?_ (fun κ_12 q13 => ?_)
    · exact ⟨(mkI_f ((F.tr (mF_ui hκ_7 (by decide))).tr (mF_ui hκ_9 (by decide))) W Ta0 hp.1).1, mO_s ((mS_ui hκ_7 (by decide)).tr (mS_ui hκ_9 (by decide))) O⟩  -- p3
    intro W14
    intro M15
    refine h _ ?_
    · exact ⟨((F.tr (mF_ui hκ_7 (by decide))).tr (mF_ui hκ_9 (by decide))).tr q13.1, q13.2.1.trans (((S.tr (mS_ui hκ_7 (by decide))).tr (mS_ui hκ_9 (by decide))).1 maShared (by decide)), q13.2.2.1, ((S.tr (mS_ui hκ_7 (by decide))).tr (mS_ui hκ_9 (by decide))).2.tr q13.2.2.2⟩  -- q4
  refine ⟨fun c16 => ?_, fun c16 => ?_⟩
  · skip
    refine hj26 _ _ W ?_ ?_
    · exact Ta0  -- t5
    · exact ⟨rfl, mF.rf, mS.rf⟩  -- k6
  · skip
    refine ⟨fun c17 => ?_, fun c17 => ?_⟩
    · skip
      refine hj26 _ _ W ?_ ?_
      · exact Ta0  -- t7
      · exact ⟨rfl, mF.rf, mS.rf⟩  -- k8
    · skip
      refine ⟨?_, ?_⟩
      · rw [lti, t0i] at c16
        rw [lei] at c17
        have L := hp.1.1.2.2.2.1
        have w := hp.2.2
        rw [inb_iff]; omega
      intro T18
      refine Ma_put_c W T18  ?_ (fun κ_19 q20 => ?_)
      · exact hp.1.1  -- p10
      intro W21
      intro M22
      refine hj26 _ _ W21 ?_ ?_
      · exact (mF_put q20).1.1.t Ta0 (by decide)  -- t11
      · exact ⟨rfl, (mF_put q20).1, (mF_put q20).2.1⟩  -- k12

end
section
set_option maxHeartbeats 1600000
/-! the class: Machine's offer, openCall -/
theorem mF_uw {κ τ : zS} {m : Nat} {x : Int32} (e : τ = ui κ maWays m x) (h : x.toInt ≤ 64) : mF κ τ m := by
  refine ⟨by rw [e]; exact zF_ui rfl, by rw [e]; rfl, by rw [e]; rfl, fun _ => ?_⟩
  have w : zI τ maWays m = x := by rw [e]; exact if_pos ⟨rfl, rfl⟩
  rw [w]; exact h
theorem mF_uf {C : zC} {n0 m f i j t : Nat} {κ τ : zS} {x : Int32} (W : zW C n0 κ) (T : zT κ m = 7) (hr : zr f = some t) (ht : 20 ≤ t) (e : τ = uff κ (zR κ f m) i j x) (hf : f / 100 = 7 := by decide) (hw : f ≠ maWeights := by decide) : mF κ τ m ∧ mS κ τ m ∧ zI τ = zI κ :=
  ⟨⟨by rw [e]; exact zF_uf (by rw [W.o hr ht (T.trans hf.symm)]), by rw [e]; rfl, by rw [e]; rfl, fun z => by rw [e]; exact z⟩, ⟨fun g _ => by rw [e]; rfl, fun g _ => ⟨by rw [e]; rfl, fun eg => by rw [eg, e]; exact ⟨rfl, if_neg (ne_w W T hf hr ht hw)⟩⟩⟩, by rw [e]; rfl⟩
/-- sums of integers -/
def sgI (f : Nat → Int) : Nat → Int
  | 0 => 0
  | n + 1 => sgI f n + f n
theorem sgI_b {f : Nat → Int} {B : Int} : ∀ {n : Nat}, (∀ i, i < n → 0 ≤ f i ∧ f i ≤ B) → 0 ≤ sgI f n ∧ sgI f n ≤ n * B
  | 0, _ => ⟨Int.le_refl _, by show (0 : Int) ≤ _; simp⟩
  | n + 1, h => by
    have a := sgI_b (f := f) (B := B) (n := n) (fun i hi => h i (Nat.lt_succ_of_lt hi))
    have b := h n (Nat.lt_succ_self n)
    have e : ((n + 1 : Nat) : Int) * B = n * B + B := by rw [Int.natCast_add]; simp [Int.add_mul]
    show 0 ≤ sgI f n + f n ∧ sgI f n + f n ≤ _
    omega
theorem sgI_eq {f g : Nat → Int} : ∀ {n : Nat}, (∀ i, i < n → f i = g i) → sgI f n = sgI g n
  | 0, _ => rfl
  | n + 1, h => by
    show sgI f n + f n = sgI g n + g n
    rw [sgI_eq (fun i hi => h i (Nat.lt_succ_of_lt hi)), h n (Nat.lt_succ_self n)]
/-- what is drawn from, or chosen from, is in order -/
def drw (κ : zS) (m : Nat) : Prop := (0 ≤ (zI κ maWays m).toInt ∧ (zI κ maWays m).toInt ≤ 64) ∧ (∀ n : Nat, (n : Int) < (zI κ maWays m).toInt → 0 ≤ (zA κ (zR κ maWeights m) n).toInt ∧ (zA κ (zR κ maWeights m) n).toInt ≤ 1000000) ∧ (zI κ maTotal m).toInt = sgI (fun n => (zA κ (zR κ maWeights m) n).toInt) ((zI κ maWays m).toInt).toNat ∧ 0 < (zI κ maTotal m).toInt ∧ (zI κ maTotal m).toInt ≤ 8000000
def chs (κ : zS) (m : Nat) : Prop := (1 ≤ (zI κ maWays m).toInt ∧ (zI κ maWays m).toInt ≤ 8) ∧ ∀ n : Nat, (n : Int) < (zI κ maWays m).toInt → (zA κ (zR κ maWeights m) n).toInt = 1
def mDw (κ : zS) (m : Nat) : Prop := zI κ maWants m = -1 ∨ (zI κ maWants m = 3 ∧ drw κ m) ∨ (zI κ maWants m = 4 ∧ chs κ m)
theorem mDw_g {κ τ : zS} {m : Nat} (G : mG κ τ m) (H : mDw κ m) : mDw τ m := by
  have w := (G maWants (by decide)).1
  have y := (G maWays (by decide)).1
  have t := (G maTotal (by decide)).1
  have r := (G maWeights (by decide)).2 rfl
  unfold mDw drw chs
  rw [w, y, t, r.1, r.2]
  exact H
theorem wRow {C : zC} {n0 m i j : Nat} {κ κ1 κ2 : zS} {x y : Int32} (W : zW C n0 κ) (T : zT κ m = 7) (e1 : κ1 = ua κ (zR κ maValues m) i x) (e2 : κ2 = ua κ1 (zR κ1 maWeights m) j y) : zA κ2 (zR κ2 maWeights m) = upd (zA κ (zR κ maWeights m)) j y := by
  have r1 : zR κ1 = zR κ := by rw [e1]; rfl
  have r2 : zR κ2 = zR κ := by rw [e2]; exact r1
  have a1 : zA κ1 (zR κ maWeights m) = zA κ (zR κ maWeights m) := by rw [e1]; exact if_neg (ne_w W T (by decide) (show zr maValues = some 20 by decide +kernel) (by decide) (by decide))
  rw [r2, e2, r1]
  refine (if_pos rfl).trans ?_
  show upd (zA κ1 (zR κ maWeights m)) j y = _
  rw [a1]
/-- one more place of a row -/
theorem upd_ones {f : Nat → Int32} {x : Int32} {y : Int} (h0 : 0 ≤ x.toInt) (hy : y = x.toInt + 1) (h : ∀ n : Nat, (n : Int) < x.toInt → (f n).toInt = 1) : ∀ n : Nat, (n : Int) < y → (upd f x.toNatClampNeg 1 n).toInt = 1 := fun n hn => by
  have k := cnk h0
  show Int32.toInt (if n = x.toNatClampNeg then 1 else f n) = 1
  by_cases z : n = x.toNatClampNeg
  · rw [if_pos z]; rfl
  · rw [if_neg z]; exact h n (by omega)
theorem mO_push {κ κ3 κ6 : zS} {m : Nat} (H : mO κ m) (c : zI κ maOpen m < (12 : Int32)) (h3 : κ3 = ui κ maOpen m (zI κ maOpen m + 1)) (h6 : κ6 = ui κ3 maFrame m (zI κ3 maFrame m + 9)) : mO κ6 m ∧ zI κ6 maShared m = zI κ maShared m := by
  have o3 : zI κ3 maOpen m = zI κ maOpen m + 1 := by rw [h3]; exact if_pos ⟨rfl, rfl⟩
  have o6 : zI κ6 maOpen m = zI κ3 maOpen m := by rw [h6]; rfl
  have f3 : zI κ3 maFrame m = zI κ maFrame m := by rw [h3]; rfl
  have f6 : zI κ6 maFrame m = zI κ maFrame m + 9 := by
    rw [h6]
    refine (if_pos ⟨rfl, rfl⟩).trans ?_
    rw [f3]
  have s6 : zI κ6 maShared m = zI κ maShared m := by rw [h6, h3]; rfl
  obtain ⟨s, o, f⟩ := H
  have e12 : (12 : Int32).toInt = 12 := rfl
  have e9 : (9 : Int32).toInt = 9 := rfl
  rw [lti, e12] at c
  have eo : (zI κ maOpen m + 1).toInt = (zI κ maOpen m).toInt + 1 := by rw [add_i (by rw [t1i]; omega) (by rw [t1i]; omega), t1i]
  have ef : (zI κ maFrame m + 9).toInt = (zI κ maFrame m).toInt + 9 := by rw [add_i (by rw [e9]; omega) (by rw [e9]; omega), e9]
  refine ⟨?_, s6⟩
  unfold mO
  rw [o6, o3, f6, s6, eo, ef]
  exact ⟨s, ⟨by omega, by omega⟩, by omega⟩
theorem Ma_offer_c {C : zC} {n0 : Nat} {a0 : Nat} {a1 : Int32} {κ : zS} {Q : zS → Prop} (W : zW C n0 κ) (Ta0 : zT κ a0 = 7)  (hp : maL κ a0 ∧ zI κ maWants a0 = -1) (h : ∀ (κ' : zS), (mF κ κ' a0 ∧ mS0 κ κ' a0 ∧ mDw κ' a0) → Q κ') : zRun C 1 mMa_offer [.ref a0, .int a1] κ (oV Q noX) := by
  refine Ma_offer_run W Ta0 ?_
  replace W := W.lo (Nat.le_trans W.1.2.1 W.1.2.2) (Nat.le_refl (zn κ))
  unfold w_Ma_offer_0
  refine ⟨fun c1 => ?_, fun c1 => ?_⟩
  · skip
    intro T2
    refine Ma_fail_c W T2  (fun κ_3 q4 => ?_)
    intro W5
    intro M6
    refine h _ ?_
    · have f := mF_fail q4
      exact ⟨f.1, f.2.1, mDw_g f.2.2 (Or.inl hp.2)⟩
  · skip
    refine ⟨fun c7 => ?_, fun c7 => ?_⟩
    · skip
      intro κ_8 hκ_8
      intro W9
      intro κ_10 hκ_10
      intro W11
      unfold w_Ma_offer_29
      refine ⟨fun n l0 l1 l2 τ => n = (a1.toInt - l2.toInt).toNat ∧ (a0 = l0 ∧ a1 = l1 ∧ mF κ τ a0 ∧ mS0 κ τ a0 ∧ 0 ≤ l2.toInt ∧ zI τ maWays a0 = a1 ∧ l2.toInt ≤ a1.toInt ∧ ∀ n : Nat, (n : Int) < l2.toInt → (zA τ (zR τ maWeights a0) n).toInt = 1), ⟨_, rfl, ?_⟩, ?_⟩
      · have e8 : (8 : Int32).toInt = 8 := rfl
        rw [lei, e8] at c7
        have w : zI κ_10 maWays a0 = a1 := by rw [hκ_10, hκ_8]; exact if_pos ⟨rfl, rfl⟩
        rw [lti, t1i] at c1
        exact ⟨rfl, rfl, (mF_uw hκ_8 (by omega)).tr (mF_ui hκ_10 (by decide)), (mS0_ui hκ_8 (by decide)).tr (mS0_ui hκ_10 (by decide)), by decide, w, by rw [t0i]; omega, fun n hn => by rw [t0i] at hn; omega⟩
      rintro n29 _ _ x29_2 κ29 W29 T29_0 ⟨hn29, rfl, rfl, i29⟩
      refine ⟨fun c12 => ?_, fun c12 => ?_⟩
      · skip
        intro κ_13 hκ_13
        intro W14
        refine h _ ?_
        · obtain ⟨F, S, l0, w, l1, on⟩ := i29
          have e8 : (8 : Int32).toInt = 8 := rfl
          rw [lei, e8] at c7
          rw [lei] at c12
          rw [lti, t1i] at c1
          have w9 : zI κ_13 maWays a0 = a1 := by rw [hκ_13]; exact w
          have n9 : zI κ_13 maWants a0 = 4 := by rw [hκ_13]; exact if_pos ⟨rfl, rfl⟩
          have a9 : zA κ_13 (zR κ_13 maWeights a0) = zA κ29 (zR κ29 maWeights a0) := by rw [hκ_13]; rfl
          refine ⟨F.tr (mF_ui hκ_13 (by decide)), S.tr (mS0_ui hκ_13 (by decide)), Or.inr (Or.inr ⟨n9, ⟨by rw [w9]; omega, by rw [w9]; omega⟩, fun n hn => ?_⟩)⟩
          rw [w9] at hn
          rw [a9]
          exact on n (by omega)
      · skip
        obtain ⟨F, S, l0, w, l1, on⟩ := i29
        have e8 : (8 : Int32).toInt = 8 := rfl
        rw [lei, e8] at c7
        have d1 : x29_2.toInt < a1.toInt := by rw [lei] at c12; omega
        have e1 := inc_i l0 d1
        have LV : zN κ29 (zR κ29 maValues a0) = 64 := by rw [F.2.1, F.2.2.1]; exact hp.1.2.2.2.1
        have LW : zN κ29 (zR κ29 maWeights a0) = 64 := by rw [F.2.1, F.2.2.1]; exact hp.1.2.2.2.2
        refine ⟨?_, ?_⟩
        · rw [inb_iff]; omega  -- b4
        intro κ_15 hκ_15
        intro W16
        refine ⟨?_, ?_⟩
        · have f := mF_ua W29 T29_0 (show zr maValues = some 20 by decide +kernel) (by decide) hκ_15
          rw [f.1.2.1, f.1.2.2.1, inb_iff]; omega
        intro κ_17 hκ_17
        intro W18
        intro x19 hx19
        refine ⟨_, ?_, rfl, ?_⟩
        · rw [hn29, hx19, e1]; omega  -- d6
        · have f1 := mF_ua W29 T29_0 (show zr maValues = some 20 by decide +kernel) (by decide) hκ_15
          have f2 := mF_ub W16 (f1.1.1.t T29_0 (by decide)) (show zr maWeights = some 20 by decide +kernel) (by decide) hκ_17
          have r := wRow W29 T29_0 hκ_15 hκ_17
          refine ⟨rfl, rfl, (F.tr f1.1).tr f2.1, (S.tr f1.2.1.1).tr f2.2.1, by rw [hx19, e1]; omega, by rw [f2.2.2, f1.2.2]; exact w, by rw [hx19, e1]; omega, ?_⟩
          rw [r]
          exact upd_ones l0 (by rw [hx19, e1]) on
    · skip
      intro T20
      refine Ma_fail_c W T20  (fun κ_21 q22 => ?_)
      intro W23
      intro M24
      refine h _ ?_
      · have f := mF_fail q22
        exact ⟨f.1, f.2.1, mDw_g f.2.2 (Or.inl hp.2)⟩

theorem Ma_openCall_c {C : zC} {n0 : Nat} {a0 : Nat} {a1 : Int32} {a2 : Int32} {κ : zS} {Q : zS → Prop} (W : zW C n0 κ) (Ta0 : zT κ a0 = 7)  (hp : mkI κ a0 ∧ mO κ a0) (h : ∀ (κ' : zS), (mF κ κ' a0 ∧ zI κ' maShared a0 = zI κ maShared a0 ∧ mO κ' a0 ∧ mG κ κ' a0) → Q κ') : zRun C 2 mMa_openCall [.ref a0, .int a1, .int a2] κ (oV Q noX) := by
  refine Ma_openCall_run W Ta0 ?_
  replace W := W.lo (Nat.le_trans W.1.2.1 W.1.2.2) (Nat.le_refl (zn κ))
  unfold w_Ma_openCall_0
  have hj92 : ∀ (l0 : Nat) (l1 : Int32) (τ : zS), zW C (zn κ) τ → zT τ l0 = 7 → (a0 = l0 ∧ a1 = l1 ∧ mF κ τ a0 ∧ zI τ maShared a0 = zI κ maShared a0 ∧ mO τ a0 ∧ mG κ τ a0) → w_Ma_openCall_92 C (zn κ) Q  l0 l1 τ := by
    rintro _ _ τ92 W92 T92_0 ⟨rfl, rfl, j92⟩
    unfold w_Ma_openCall_92
    intro T1
    refine Co_firstOf_c W92 T1  ?_ (fun r2 q4 => ?_)
    · exact (mkI_f j92.1 W Ta0 hp.1).1.2  -- p1
    intro W5
    intro M6
    intro κ_7 hκ_7
    intro W8
    refine h _ ?_
    · exact ⟨j92.1.tr (mF_ui hκ_7 (by decide)), ((mS_ui hκ_7 (by decide)).1 maShared (by decide)).trans j92.2.1, mO_s (mS_ui hκ_7 (by decide)) j92.2.2.1, j92.2.2.2.tr (mG_ui hκ_7 (by decide))⟩  -- q2
  refine ⟨fun c9 => ?_, fun c9 => ?_⟩
  · skip
    intro κ_10 hκ_10
    intro W11
    intro κ_12 hκ_12
    intro W13
    intro T14
    refine Ar_fill4_c W13 T14  ?_ (fun κ_15 q16 => ?_)
    · have P := mO_push hp.2 c9 hκ_10 hκ_12
      have F := (mF_ui hκ_10 (by decide)).tr (mF_ui hκ_12 (by decide))
      have L := (mkI_f F W Ta0 hp.1).1.1.1
      obtain ⟨⟨s, o, f⟩, -⟩ := P
      have e9 : (9 : Int32).toInt = 9 := rfl
      have ef : (zI κ_12 maFrame a0 + 9).toInt = (zI κ_12 maFrame a0).toInt + 9 := by rw [add_i (by rw [e9]; omega) (by rw [e9]; omega), e9]
      have kn := cnk (x := zI κ_12 maFrame a0 + 9) (by omega)
      exact ⟨by rw [lei, t0i]; omega, by rw [lei, ef]; omega, by omega⟩
    intro W17
    intro M18
    unfold w_Ma_openCall_57
    refine ⟨fun n l0 l1 l2 l3 τ => n = (4 - l3.toInt).toNat ∧ (a0 = l0 ∧ a1 = l1 ∧ a2 = l2 ∧ mF κ τ a0 ∧ zI τ maShared a0 = zI κ maShared a0 ∧ mO τ a0 ∧ 0 ≤ l3.toInt ∧ mG κ τ a0), ⟨_, rfl, ?_⟩, ?_⟩
    · have P := mO_push hp.2 c9 hκ_10 hκ_12
      have F := (mF_ui hκ_10 (by decide)).tr (mF_ui hκ_12 (by decide))
      have f := mF_uf W13 (F.1.t Ta0 (by decide)) (show zr maMemory = some 20 by decide +kernel) (by decide) q16
      exact ⟨rfl, rfl, rfl, F.tr f.1, by rw [f.2.2]; exact P.2, mO_i f.2.2 P.1, by decide, ((mG_ui hκ_10 (by decide)).tr (mG_ui hκ_12 (by decide))).tr f.2.1.2⟩
    rintro n57 _ _ _ x57_3 κ57 W57 T57_0 ⟨hn57, rfl, rfl, rfl, i57⟩
    refine ⟨fun c19 => ?_, fun c19 => ?_⟩
    · skip
      refine hj92 _ _ _ W57 ?_ ?_
      · exact T57_0  -- t5
      · exact ⟨rfl, rfl, i57.1, i57.2.1, i57.2.2.1, i57.2.2.2.2⟩  -- k6
    · skip
      refine ⟨fun c20 => ?_, fun c20 => ?_⟩
      · skip
        refine hj92 _ _ _ W57 ?_ ?_
        · exact T57_0  -- t7
        · exact ⟨rfl, rfl, i57.1, i57.2.1, i57.2.2.1, i57.2.2.2.2⟩  -- k8
      · skip
        obtain ⟨F, eS, O, l0, G⟩ := i57
        have I := (mkI_f F W Ta0 hp.1).1
        have LM := I.1.1
        have LW := I.1.2.2.1
        have e4 : (4 : Int32).toInt = 4 := rfl
        rw [lei, e4] at c20
        have e1 : (x57_3 + 1).toInt = x57_3.toInt + 1 := by rw [add_i (by rw [t1i]; omega) (by rw [t1i]; omega), t1i]
        refine ⟨?_, ?_⟩
        · rw [inb_iff]; omega  -- b9
        refine ⟨?_, ?_⟩
        · obtain ⟨s, o, f⟩ := O
          have e5 : (zI κ57 maFrame a0 + 1).toInt = (zI κ57 maFrame a0).toInt + 1 := by rw [add_i (by rw [t1i]; omega) (by rw [t1i]; omega), t1i]
          have e6 : (zI κ57 maFrame a0 + 1 + x57_3).toInt = (zI κ57 maFrame a0).toInt + 1 + x57_3.toInt := by rw [add_i (by rw [e5]; omega) (by rw [e5]; omega), e5]
          rw [inb_iff, e6]; omega
        intro κ_21 hκ_21
        intro W22
        intro x23 hx23
        refine ⟨_, ?_, rfl, ?_⟩
        · rw [hn57, hx23, e1]; omega  -- d11
        · have f := mF_ua W57 T57_0 (show zr maMemory = some 20 by decide +kernel) (by decide) hκ_21
          exact ⟨rfl, rfl, rfl, F.tr f.1, by rw [f.2.2]; exact eS, mO_i f.2.2 O, by rw [hx23, e1]; omega, G.tr f.2.1.2⟩
  · skip
    intro T24
    refine Ma_fail_c W T24  (fun κ_25 q26 => ?_)
    intro W27
    intro M28
    refine h _ ?_
    · have f := mF_fail q26
      exact ⟨f.1, f.2.1 maShared (by decide), mO_s f.2 hp.2, f.2.2⟩

end
