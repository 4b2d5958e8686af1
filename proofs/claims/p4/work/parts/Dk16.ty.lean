set_option maxHeartbeats 1600000
/-! the tape cut into tokens -/
def f5_Ta_reads_3 (U : U5) (t3 : List Int32) : Nat → Int32 → Int32 → Int32 → Int32 → Int32
  | 0, _, _, _, _ => 0
  | m5 + 1, a1, a2, a4, a5 => (if a2 ≤ a5 then (1 : Int32) else pb5 (Int32.ofNat t3.length) (fun r2 => (if r2 ≤ (a4 + a5) then (0 : Int32) else pb5 (f5_Ta_byteAt U ((a1 + a5))) (fun r5 => pb5 (ch5 t3 ((a4 + a5))) (fun r9 => (if r5 = r9 then pb5 (a5 + (1 : Int32)) (fun v5_11 => (f5_Ta_reads_3 U t3 m5 (a1) (a2) (a4) (v5_11))) else (0 : Int32)))))))
def f5_Ta_reads (U : U5) (t3 : List Int32) (a1 a2 a4 : Int32) : Int32 := (f5_Ta_reads_3 U t3 fu5 (a1) (a2) (a4) ((0 : Int32)))

def f5_Ta_wordOf_62 (U : U5) (B10 : Int32 → Int32 → Int32 → Int32 → Int32 → Int32) (a1 a2 a3 a5 : Int32) : Int32 := pb5 (a3 + (1 : Int32)) (fun v3_1 => pb5 ((a5 + (1 : Int32))) (fun v4_2 => pb5 (a5 + (1 : Int32)) (fun v5_3 => (B10 (a1) (a2) (v3_1) (v4_2) (v5_3)))))
def f5_Ta_wordOf_10 (U : U5) : Nat → Int32 → Int32 → Int32 → Int32 → Int32 → Int32
  | 0, _, _, _, _, _ => 0
  | m5 + 1, a1, a2, a3, a4, a5 => pb5 (Int32.ofNat wt5.length) (fun r2 => (if r2 ≤ a5 then (140 : Int32) else (if (8 : Int32) ≤ a2 then (140 : Int32) else pb5 (ch5 wt5 (a5)) (fun r5 => (if r5 = (32 : Int32) then (if (a5 - a4) = a2 then pb5 (f5_Ta_reads U wt5 (a1) (a2) (a4)) (fun r11 => (if r11 = (0 : Int32) then (f5_Ta_wordOf_62 U (f5_Ta_wordOf_10 U m5) (a1) (a2) (a3) (a5)) else a3)) else (f5_Ta_wordOf_62 U (f5_Ta_wordOf_10 U m5) (a1) (a2) (a3) (a5))) else pb5 (a5 + (1 : Int32)) (fun v5_7 => (f5_Ta_wordOf_10 U m5 (a1) (a2) (a3) (a4) (v5_7))))))))
def f5_Ta_wordOf (U : U5) (a1 a2 : Int32) : Int32 := (f5_Ta_wordOf_10 U fu5 (a1) (a2) ((150 : Int32)) ((0 : Int32)) ((0 : Int32)))

def f5_Ta_kindOf (U : U5) (a1 a2 : Int32) : Int32 := pb5 (f5_Ta_byteAt U (a1)) (fun r2 => pb5 (f5_Ta_isLetter (r2)) (fun r5 => (if r5 = (0 : Int32) then pb5 (f5_Ta_isDigit (r2)) (fun r8 => (if r8 = (0 : Int32) then (if a2 = (2 : Int32) then (if r2 = (61 : Int32) then (128 : Int32) else (if r2 = (33 : Int32) then (129 : Int32) else (if r2 = (60 : Int32) then (130 : Int32) else (131 : Int32)))) else pb5 (ix5 sn5 ((UInt32.toInt32 (Int32.toUInt32 r2 % 65536)))) (fun r11 => (if r11 < (0 : Int32) then (143 : Int32) else r2))) else (if a2 ≤ (9 : Int32) then (141 : Int32) else (143 : Int32)))) else (if a2 ≤ (12 : Int32) then pb5 (f5_Ta_wordOf U (a1) (a2)) (fun r14 => r14) else (143 : Int32)))))

def f5_Ta_isMain (T : T5) (a1 : Int32) : Int32 := (if a1 < (0 : Int32) then (0 : Int32) else (if (T.2.2.2.2.2.1) ≤ a1 then (0 : Int32) else (if (T.2.2.2.1 (a1).toNatClampNeg) = (4 : Int32) then pb5 (f5_Ta_reads (ut5 T) mn5 ((T.2.2.1 (a1).toNatClampNeg)) ((4 : Int32)) ((0 : Int32))) (fun r2 => (if r2 = (0 : Int32) then (0 : Int32) else (1 : Int32))) else (0 : Int32))))

theorem Ta_reads_q5 {C : zC} {n0 : Nat} {a0 : Nat} {a1 : Int32} {a2 : Int32} {a3 : Nat} {a4 : Int32} {κ : zS} {Q : Int32 → zS → Prop} (W : zW C n0 κ) (Ta0 : zT κ a0 = 13) (Ta3 : isTx C a3)  (hp : taI κ a0 ∧ 0 ≤ a4.toInt ∧ a4.toInt ≤ 65536 ∧ a2.toInt ≤ 65536) (h : ∀ (v : Int32), ((True) ∧ v = f5_Ta_reads (up5 κ a0) (txC5 C a3) a1 a2 a4) → Q v κ) : zRun C 10 mTa_reads [.ref a0, .int a1, .int a2, .ref a3, .int a4] κ (oI Q noX) := by
  refine Ta_reads_run W Ta0 Ta3 ?_
  replace W := W.lo (Nat.le_trans W.1.2.1 W.1.2.2) (Nat.le_refl (zn κ))
  unfold w_Ta_reads_0
  have hE : f5_Ta_reads (up5 κ a0) (txC5 C a3) a1 a2 a4 = f5_Ta_reads (up5 κ a0) (txC5 C a3) a1 a2 a4 := rfl
  unfold w_Ta_reads_3
  refine ⟨fun n l0 l1 l2 l3 l4 l5 τ => n = (a2.toInt - l5.toInt).toNat ∧ ((κ = τ ∧ a0 = l0 ∧ a1 = l1 ∧ a2 = l2 ∧ a3 = l3 ∧ a4 = l4 ∧ 0 ≤ l5.toInt) ∧ ∃ m5, n < m5 ∧ f5_Ta_reads (up5 κ a0) (txC5 C a3) a1 a2 a4 = f5_Ta_reads_3 (up5 κ a0) (txC5 C a3) m5 l1 l2 l4 l5), ⟨_, rfl, ?_⟩, ?_⟩
  · refine and_5 ?_ (fun o9 => ⟨fu5, by have := a2.toInt_lt; unfold fu5; omega, hE⟩)  -- j1
    exact ⟨rfl, rfl, rfl, rfl, rfl, rfl, by decide⟩
  rintro n3 _ _ _ _ _ x3_5 _ W3 T3_0 T3_1 ⟨hn3, ⟨rfl, rfl, rfl, rfl, rfl, rfl, i3⟩, m3, hm3, hE⟩
  obtain ⟨m3, rfl⟩ : ∃ m9, m3 = m9 + 1 := ⟨m3 - 1, by omega⟩
  refine ⟨fun c1 => ?_, fun c1 => ?_⟩
  · skip
    replace hE := rb_t5 hE c1
    refine h _ ?_
    · refine and_5 ?_ (fun o9 => hE.symm)  -- q2
      trivial
  · skip
    replace hE := rb_f5 hE c1
    intro T2
    refine St_length_r5 W3 T2  (fun r3 q5 => ?_)
    obtain ⟨q5, z9⟩ := q5
    replace hE := rb_p5 hE z9
    intro W6
    intro M7
    refine ⟨fun c8 => ?_, fun c8 => ?_⟩
    · skip
      replace hE := rb_t5 hE c8
      refine h _ ?_
      · refine and_5 ?_ (fun o9 => hE.symm)  -- q3
        trivial
    · skip
      replace hE := rb_f5 hE c8
      intro T9
      refine Ta_byteAt_q5 W6 T9  ?_ (fun r10 q12 => ?_)
      · exact hp.1  -- p4
      obtain ⟨q12, z9⟩ := q12
      replace hE := rb_p5 hE z9
      intro W13
      intro M14
      intro T15
      refine St_charAt_r5 W13 T15  ?_ (fun r16 q18 => ?_)
      · rw [lei] at c1 c8
        have e : (a4 + x3_5).toInt = a4.toInt + x3_5.toInt := add_i (by omega) (by omega)
        rw [e]
        rw [q5, e] at c8
        omega
      obtain ⟨q18, z9⟩ := q18
      replace hE := rb_p5 hE z9
      intro W19
      intro M20
      refine ⟨fun c21 => ?_, fun c21 => ?_⟩
      · skip
        replace hE := rb_t5 hE c21
        intro x22 hx22
        replace hE := rb_p5 hE hx22
        refine lp_b5 ?_ (fun d9 => ⟨rfl, ?_⟩)
        · rw [lei] at c1
          have e1 := inc_i (x := x3_5) (y := a2) i3 (by omega)
          rw [hn3, hx22, e1]; omega
        · refine and_5 ?_ (fun o9 => ⟨m3, by omega, hE⟩)  -- i7
          rw [lei] at c1
          have e1 := inc_i (x := x3_5) (y := a2) i3 (by omega)
          exact ⟨rfl, rfl, rfl, rfl, rfl, rfl, by rw [hx22, e1]; omega⟩
      · skip
        replace hE := rb_f5 hE c21
        refine h _ ?_
        · refine and_5 ?_ (fun o9 => hE.symm)  -- q8
          trivial

theorem Ta_wordOf_q5 {C : zC} {n0 : Nat} {a0 : Nat} {a1 : Int32} {a2 : Int32} {κ : zS} {Q : Int32 → zS → Prop} (W : zW C n0 κ) (Ta0 : zT κ a0 = 13) (hx5 : tx5 C) (hp : taI κ a0) (h : ∀ (v : Int32), ((True) ∧ v = f5_Ta_wordOf (up5 κ a0) a1 a2) → Q v κ) : zRun C 11 mTa_wordOf [.ref a0, .int a1, .int a2] κ (oI Q noX) := by
  refine Ta_wordOf_run W Ta0 ?_
  replace W := W.lo (Nat.le_trans W.1.2.1 W.1.2.2) (Nat.le_refl (zn κ))
  unfold w_Ta_wordOf_0
  have tb := txL_b (W.1.1.2 0 (Or.inl rfl))
  have hE : f5_Ta_wordOf (up5 κ a0) a1 a2 = f5_Ta_wordOf (up5 κ a0) a1 a2 := rfl
  unfold w_Ta_wordOf_10
  refine ⟨fun n l0 l1 l2 l3 l4 l5 τ => n = (txL C (C.1 0) - l5.toInt).toNat ∧ ((κ = τ ∧ a0 = l0 ∧ a1 = l1 ∧ a2 = l2 ∧ (0 ≤ l5.toInt ∧ l5.toInt ≤ txL C (C.1 0)) ∧ (0 ≤ l4.toInt ∧ l4.toInt ≤ 65536)) ∧ ∃ m5, n < m5 ∧ f5_Ta_wordOf (up5 κ a0) a1 a2 = f5_Ta_wordOf_10 (up5 κ a0) m5 l1 l2 l3 l4 l5), ⟨_, rfl, ?_⟩, ?_⟩
  · refine and_5 ?_ (fun o9 => ⟨fu5, by unfold fu5; omega, hE⟩)  -- j1
    exact ⟨rfl, rfl, rfl, rfl, ⟨by decide, by rw [t0i]; omega⟩, by decide, by decide⟩
  rintro n10 _ _ _ x10_3 x10_4 x10_5 _ W10 T10_0 ⟨hn10, ⟨rfl, rfl, rfl, rfl, i10⟩, m10, hm10, hE⟩
  obtain ⟨m10, rfl⟩ : ∃ m9, m10 = m9 + 1 := ⟨m10 - 1, by omega⟩
  have hj62 : ∀ (l0 : Nat) (l1 : Int32) (l2 : Int32) (l3 : Int32) (l5 : Int32) (τ : zS), zW C (zn κ) τ → zT τ l0 = 13 → ((κ = τ ∧ a0 = l0 ∧ a1 = l1 ∧ a2 = l2 ∧ l5 = x10_5 ∧ l5.toInt < txL C (C.1 0)) ∧ f5_Ta_wordOf (up5 κ a0) a1 a2 = f5_Ta_wordOf_62 (up5 κ a0) (f5_Ta_wordOf_10 (up5 κ a0) m10) l1 l2 l3 l5) → w_Ta_wordOf_62 C (zn κ) Q (fun (l0' : Nat) (l1' : Int32) (l2' : Int32) (l3' : Int32) (l4' : Int32) (l5' : Int32) (τ : zS) => ∃ k < n10, (fun (n : Nat) (l0 : Nat) (l1 : Int32) (l2 : Int32) (l3 : Int32) (l4 : Int32) (l5 : Int32) (τ : zS) => n = (txL C (C.1 0) - l5.toInt).toNat ∧ ((κ = τ ∧ a0 = l0 ∧ a1 = l1 ∧ a2 = l2 ∧ (0 ≤ l5.toInt ∧ l5.toInt ≤ txL C (C.1 0)) ∧ (0 ≤ l4.toInt ∧ l4.toInt ≤ 65536)) ∧ ∃ m5, n < m5 ∧ f5_Ta_wordOf (up5 κ a0) a1 a2 = f5_Ta_wordOf_10 (up5 κ a0) m5 l1 l2 l3 l4 l5)) k l0' l1' l2' l3' l4' l5' τ) l0 l1 l2 l3 l5 τ := by
    rintro _ _ _ y62_3 y62_5 _ W62 T62_0 ⟨⟨rfl, rfl, rfl, rfl, j62⟩, hE⟩
    unfold w_Ta_wordOf_62
    intro x1 hx1
    replace hE := rb_p5 hE hx1
    intro x2 hx2
    replace hE := rb_p5 hE hx2
    intro x3 hx3
    replace hE := rb_p5 hE hx3
    refine lp_b5 ?_ (fun d9 => ⟨rfl, ?_⟩)
    · obtain ⟨e, l⟩ := j62
      have l0 := i10.1.1
      have e1 : (y62_5 + 1).toInt = y62_5.toInt + 1 := by rw [add_i (by rw [t1i, e]; omega) (by rw [t1i]; omega), t1i]
      rw [hn10, hx3, e1, e]; rw [e] at l; omega
    · refine and_5 ?_ (fun o9 => ⟨m10, by omega, hE⟩)  -- i3
      obtain ⟨e, l⟩ := j62
      have l0 := i10.1.1
      have e1 : (y62_5 + 1).toInt = y62_5.toInt + 1 := by rw [add_i (by rw [t1i, e]; omega) (by rw [t1i]; omega), t1i]
      exact ⟨rfl, rfl, rfl, rfl, ⟨by rw [hx3, e1, e]; omega, by rw [hx3, e1]; omega⟩, by rw [hx2, e1, e]; omega, by rw [hx2, e1]; omega⟩
  intro T4
  refine St_length_r5 W10 T4  (fun r5 q7 => ?_)
  obtain ⟨q7, z9⟩ := q7
  rw [hx5.1] at z9
  replace hE := rb_p5 hE z9
  intro W8
  intro M9
  refine ⟨fun c10 => ?_, fun c10 => ?_⟩
  · skip
    replace hE := rb_t5 hE c10
    refine h _ ?_
    · refine and_5 ?_ (fun o9 => hE.symm)  -- q4
      trivial
  · skip
    replace hE := rb_f5 hE c10
    rw [lei, q7] at c10
    have l0 := i10.1
    have e1 : (x10_5 + 1).toInt = x10_5.toInt + 1 := by rw [add_i (by rw [t1i]; omega) (by rw [t1i]; omega), t1i]
    refine ⟨fun c11 => ?_, fun c11 => ?_⟩
    · skip
      replace hE := rb_t5 hE c11
      refine h _ ?_
      · refine and_5 ?_ (fun o9 => hE.symm)  -- q5
        trivial
    · skip
      replace hE := rb_f5 hE c11
      intro T12
      refine St_charAt_r5 W8 T12  ?_ (fun r13 q15 => ?_)
      · exact ⟨l0.1, by omega⟩  -- p6
      obtain ⟨q15, z9⟩ := q15
      rw [hx5.1] at z9
      replace hE := rb_p5 hE z9
      intro W16
      intro M17
      refine ⟨fun c18 => ?_, fun c18 => ?_⟩
      · skip
        replace hE := rb_f5 hE c18
        intro x19 hx19
        replace hE := rb_p5 hE hx19
        refine lp_b5 ?_ (fun d9 => ⟨rfl, ?_⟩)
        · rw [hn10, hx19, e1]; omega  -- d7
        · refine and_5 ?_ (fun o9 => ⟨m10, by omega, hE⟩)  -- i8
          exact ⟨rfl, rfl, rfl, rfl, ⟨by rw [hx19, e1]; omega, by rw [hx19, e1]; omega⟩, i10.2⟩
      · skip
        replace hE := rb_t5 hE c18
        refine ⟨fun c20 => ?_, fun c20 => ?_⟩
        · skip
          replace hE := rb_f5 hE c20
          refine hj62 _ _ _ _ _ _ W16 ?_ ?_
          · exact T10_0  -- t9
          · refine and_5 ?_ (fun o9 => hE)  -- k10
            exact ⟨rfl, rfl, rfl, rfl, rfl, by omega⟩
        · skip
          replace hE := rb_t5 hE c20
          intro T21
          intro T22
          refine Ta_reads_q5 W16 T21 T22  ?_ (fun r23 q25 => ?_)
          · have e8 : (8 : Int32).toInt = 8 := rfl
            rw [lei, e8] at c11
            exact ⟨hp, i10.2.1, i10.2.2, by omega⟩
          obtain ⟨q25, z9⟩ := q25
          rw [hx5.1] at z9
          replace hE := rb_p5 hE z9
          intro W26
          intro M27
          refine ⟨fun c28 => ?_, fun c28 => ?_⟩
          · skip
            replace hE := rb_t5 hE c28
            refine hj62 _ _ _ _ _ _ W26 ?_ ?_
            · exact T10_0  -- t12
            · refine and_5 ?_ (fun o9 => hE)  -- k13
              exact ⟨rfl, rfl, rfl, rfl, rfl, by omega⟩
          · skip
            replace hE := rb_f5 hE c28
            refine h _ ?_
            · refine and_5 ?_ (fun o9 => hE.symm)  -- q14
              trivial

theorem Ta_kindOf_q5 {C : zC} {n0 : Nat} {a0 : Nat} {a1 : Int32} {a2 : Int32} {κ : zS} {Q : Int32 → zS → Prop} (W : zW C n0 κ) (Ta0 : zT κ a0 = 13) (hx5 : tx5 C) (hp : taI κ a0) (h : ∀ (v : Int32), ((True) ∧ v = f5_Ta_kindOf (up5 κ a0) a1 a2) → Q v κ) : zRun C 12 mTa_kindOf [.ref a0, .int a1, .int a2] κ (oI Q noX) := by
  refine Ta_kindOf_run W Ta0 ?_
  replace W := W.lo (Nat.le_trans W.1.2.1 W.1.2.2) (Nat.le_refl (zn κ))
  unfold w_Ta_kindOf_0
  have hE : f5_Ta_kindOf (up5 κ a0) a1 a2 = f5_Ta_kindOf (up5 κ a0) a1 a2 := rfl
  intro T1
  refine Ta_byteAt_q5 W T1  ?_ (fun r2 q4 => ?_)
  · exact hp  -- p1
  obtain ⟨q4, z9⟩ := q4
  replace hE := rb_p5 hE z9
  intro W5
  intro M6
  refine Ta_isLetter_q5 W5   (fun r7 q9 => ?_)
  obtain ⟨q9, z9⟩ := q9
  replace hE := rb_p5 hE z9
  intro W10
  intro M11
  refine ⟨fun c12 => ?_, fun c12 => ?_⟩
  · skip
    replace hE := rb_t5 hE c12
    refine Ta_isDigit_q5 W10   (fun r13 q15 => ?_)
    obtain ⟨q15, z9⟩ := q15
    replace hE := rb_p5 hE z9
    intro W16
    intro M17
    refine ⟨fun c18 => ?_, fun c18 => ?_⟩
    · skip
      replace hE := rb_t5 hE c18
      refine ⟨fun c19 => ?_, fun c19 => ?_⟩
      · skip
        replace hE := rb_f5 hE c19
        intro T20
        refine St_indexOf_r5 W16 T20  (fun r21 q23 => ?_)
        obtain ⟨q23, z9⟩ := q23
        rw [hx5.2.1] at z9
        replace hE := rb_p5 hE rfl
        have hl9 := ix_5 z9
        intro W24
        intro M25
        refine ⟨fun c26 => ?_, fun c26 => ?_⟩
        · skip
          replace hE := rb_t5 hE (hl9.mp c26)
          refine h _ ?_
          · refine and_5 ?_ (fun o9 => hE.symm)  -- q2
            trivial
        · skip
          replace hE := rb_f5 hE (fun z => c26 (hl9.mpr z))
          refine h _ ?_
          · refine and_5 ?_ (fun o9 => hE.symm)  -- q3
            trivial
      · skip
        replace hE := rb_t5 hE c19
        refine ⟨fun c27 => ?_, fun c27 => ?_⟩
        · skip
          replace hE := rb_f5 hE c27
          refine ⟨fun c28 => ?_, fun c28 => ?_⟩
          · skip
            replace hE := rb_f5 hE c28
            refine ⟨fun c29 => ?_, fun c29 => ?_⟩
            · skip
              replace hE := rb_f5 hE c29
              refine h _ ?_
              · refine and_5 ?_ (fun o9 => hE.symm)  -- q4
                trivial
            · skip
              replace hE := rb_t5 hE c29
              refine h _ ?_
              · refine and_5 ?_ (fun o9 => hE.symm)  -- q5
                trivial
          · skip
            replace hE := rb_t5 hE c28
            refine h _ ?_
            · refine and_5 ?_ (fun o9 => hE.symm)  -- q6
              trivial
        · skip
          replace hE := rb_t5 hE c27
          refine h _ ?_
          · refine and_5 ?_ (fun o9 => hE.symm)  -- q7
            trivial
    · skip
      replace hE := rb_f5 hE c18
      refine ⟨fun c30 => ?_, fun c30 => ?_⟩
      · skip
        replace hE := rb_t5 hE c30
        refine h _ ?_
        · refine and_5 ?_ (fun o9 => hE.symm)  -- q8
          trivial
      · skip
        replace hE := rb_f5 hE c30
        refine h _ ?_
        · refine and_5 ?_ (fun o9 => hE.symm)  -- q9
          trivial
  · skip
    replace hE := rb_f5 hE c12
    refine ⟨fun c31 => ?_, fun c31 => ?_⟩
    · skip
      replace hE := rb_t5 hE c31
      intro T32
      refine Ta_wordOf_q5 W10 T32 hx5 ?_ (fun r33 q35 => ?_)
      · exact hp  -- p10
      obtain ⟨q35, z9⟩ := q35
      replace hE := rb_p5 hE z9
      intro W36
      intro M37
      refine h _ ?_
      · refine and_5 ?_ (fun o9 => hE.symm)  -- q11
        trivial
    · skip
      replace hE := rb_f5 hE c31
      refine h _ ?_
      · refine and_5 ?_ (fun o9 => hE.symm)  -- q12
        trivial

theorem Ta_isMain_q5 {C : zC} {n0 : Nat} {a0 : Nat} {a1 : Int32} {κ : zS} {Q : Int32 → zS → Prop} (W : zW C n0 κ) (Ta0 : zT κ a0 = 13) (hx5 : tx5 C) (hp : taI κ a0 ∧ tokI κ a0) (h : ∀ (v : Int32), ((True) ∧ v = f5_Ta_isMain (tpT5 κ a0) a1) → Q v κ) : zRun C 11 mTa_isMain [.ref a0, .int a1] κ (oI Q noX) := by
  refine Ta_isMain_run W Ta0 ?_
  replace W := W.lo (Nat.le_trans W.1.2.1 W.1.2.2) (Nat.le_refl (zn κ))
  unfold w_Ta_isMain_0
  have hE : f5_Ta_isMain (tpT5 κ a0) a1 = f5_Ta_isMain (tpT5 κ a0) a1 := rfl
  refine ⟨fun c1 => ?_, fun c1 => ?_⟩
  · skip
    replace hE := rb_t5 hE c1
    refine h _ ?_
    · refine and_5 ?_ (fun o9 => hE.symm)  -- q1
      trivial
  · skip
    replace hE := rb_f5 hE c1
    refine ⟨fun c2 => ?_, fun c2 => ?_⟩
    · skip
      replace hE := rb_t5 hE c2
      refine h _ ?_
      · refine and_5 ?_ (fun o9 => hE.symm)  -- q2
        trivial
    · skip
      replace hE := rb_f5 hE c2
      refine ⟨?_, ?_⟩
      · have B := hp.1.2
        rw [lti, t0i] at c1
        rw [lei] at c2
        rw [inb_iff]; omega
      refine ⟨fun c3 => ?_, fun c3 => ?_⟩
      · skip
        replace hE := rb_f5 hE c3
        refine h _ ?_
        · refine and_5 ?_ (fun o9 => hE.symm)  -- q4
          trivial
      · skip
        replace hE := rb_t5 hE c3
        refine ⟨?_, ?_⟩
        · have B := hp.1.2
          rw [lti, t0i] at c1
          rw [lei] at c2
          rw [inb_iff]; omega
        intro T4
        intro T5
        refine Ta_reads_q5 W T4 T5  ?_ (fun r6 q8 => ?_)
        · exact ⟨hp.1, by decide, by decide, by decide⟩  -- p6
        obtain ⟨q8, z9⟩ := q8
        rw [hx5.2.2] at z9
        replace hE := rb_p5 hE z9
        intro W9
        intro M10
        refine ⟨fun c11 => ?_, fun c11 => ?_⟩
        · skip
          replace hE := rb_t5 hE c11
          refine h _ ?_
          · refine and_5 ?_ (fun o9 => hE.symm)  -- q7
            trivial
        · skip
          replace hE := rb_f5 hE c11
          refine h _ ?_
          · refine and_5 ?_ (fun o9 => hE.symm)  -- q8
            trivial
