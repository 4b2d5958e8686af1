section
set_option maxHeartbeats 1600000
/-! the tape cut into tokens -/
def f5_Ta_reads_3 (U : U5) (t3 : List Int32) : Nat → Int32 → Int32 → Int32 → Int32 → Int32
  | 0, _, _, _, _ => 0
  | m5 + 1, a1, a2, a4, a5 => (if a2 ≤ a5 then (1 : Int32) else pb5 (Int32.ofNat t3.length) (fun r2 => (if r2 ≤ (a4 + a5) then (0 : Int32) else pb5 (f5_Ta_byteAt U ((a1 + a5))) (fun r5 => pb5 (ch5 t3 ((a4 + a5))) (fun r9 => (if r5 = r9 then pb5 (a5 + (1 : Int32)) (fun v5_11 => (f5_Ta_reads_3 U t3 m5 (a1) (a2) (a4) (v5_11))) else (0 : Int32)))))))
def f5_Ta_reads (U : U5) (t3 : List Int32) (a1 a2 a4 : Int32) : Int32 := (f5_Ta_reads_3 U t3 fu5 (a1) (a2) (a4) ((0 : Int32)))

def f5_Ta_wordOf_62 (U : U5) (B10 : Int32 → Int32 → Int32 → Int32 → Int32 → Int32) (a1 a2 a3 a5 : Int32) : Int32 := pb5 (a3 + (1 : Int32)) (fun v3_1 => pb5 ((a5 + (1 : Int32))) (fun v4_2 => pb5 (a5 + (1 : Int32)) (fun v5_3 => (B10 (a1) (a2) (v3_1) (v4_2) (v5_3)))))
def f5_Ta_wordOf_10 (U : U5) : Nat → Int32 → Int32 → Int32 → Int32 → Int32 → Int32
  | 0, _, _, _, _, _ => 0
  | m5 + 1, a1, a2, a3, a4, a5 => pb5 (Int32.ofNat wt5.length) (fun r2 => (if r2 ≤ a5 then (140 : Int32) else (if (8 : Int32) ≤ a2 then (140 : Int32) else pb5 (ch5 wt5 (a5)) (fun r5 => (if r5 = (32 : Int32) then (if (a5 - a4) = a2 then pb5 (f5_Ta_reads U wt5 (a1) (a2) (a4)) (fun r11 => (if r11 = (0 : Int32) then (f5_Ta_wordOf_62 U (f5_Ta_wordOf_10 U m5) (a1) (a2) (a3) (a5)) else a3)) else (f5_Ta_wordOf_62 U (f5_Ta_wordOf_10 U m5) (a1) (a2) (a3) (a5))) else pb5 (a5 + (1 : Int32)) (fun v5_7 => (f5_Ta_wordOf_10 U m5 (a1) (a2) (a3) (a4) (v5_7))))))))
def f5_Ta_wordOf (U : U5) (a1 a2 : Int32) : Int32 := (f5_Ta_wordOf_10 U fu5 (a1) (a2) ((150 : Int32)) ((0 : Int32)) ((0 : Int32)))

def f5_Ta_kindOf (U : U5) (a1 a2 : Int32) : Int32 := pb5 (f5_Ta_byteAt U (a1)) (fun r2 => pb5 (f5_Ta_isLetter (r2)) (fun r5 => (if r5 = (0 : Int32) then pb5 (f5_Ta_isDigit (r2)) (fun r8 => (if r8 = (0 : Int32) then (if a2 = (2 : Int32) then (if r2 = (61 : Int32) then (128 : Int32) else (if r2 = (33 : Int32) then (129 : Int32) else (if r2 = (60 : Int32) then (130 : Int32) else (131 : Int32)))) else pb5 (ix5 sn5 ((UInt32.toInt32 (Int32.toUInt32 r2 % 65536)))) (fun r11 => (if r11 < (0 : Int32) then (143 : Int32) else r2))) else (if a2 ≤ (9 : Int32) then (141 : Int32) else (143 : Int32)))) else (if a2 ≤ (12 : Int32) then pb5 (f5_Ta_wordOf U (a1) (a2)) (fun r14 => r14) else (143 : Int32)))))

def f5_Ta_isMain (T : T5) (a1 : Int32) : Int32 := (if a1 < (0 : Int32) then (0 : Int32) else (if (T.2.2.2.2.2.1) ≤ a1 then (0 : Int32) else (if (T.2.2.2.1 (a1).toNatClampNeg) = (4 : Int32) then pb5 (f5_Ta_reads (ut5 T) mn5 ((T.2.2.1 (a1).toNatClampNeg)) ((4 : Int32)) ((0 : Int32))) (fun r2 => (if r2 = (0 : Int32) then (0 : Int32) else (1 : Int32))) else (0 : Int32))))

theorem Ta_reads_q5 {C : zC} {n0 : Nat} {a0 : Nat} {a1 : Int32} {a2 : Int32} {a3 : Nat} {a4 : Int32} {κ : zS} {Q : Int32 → zS → Prop} (W : zW C n0 κ) (Ta0 : zT κ a0 = 13) (Ta3 : isTx C a3)  (hp : taI κ a0 ∧ 0 ≤ a4.toInt ∧ a4.toInt ≤ 65536 ∧ a2.toInt ≤ 65536) (h : ∀ (v : Int32), ((True) ∧ v = f5_Ta_reads (up5 κ a0) (txC5 C a3) a1 a2 a4) → Q v κ) : zRun C 10 mTa_reads [.ref a0, .int a1, .int a2, .ref a3, .int a4] κ (oI Q noX) := by
  refine Ta_reads_run W Ta0 Ta3 ?_
  replace W := W.lo (Nat.le_trans W.1.2.1 W.1.2.2) (Nat.le_refl (zn κ))
  unfold w_Ta_reads_0
  have hE : f5_Ta_reads (up5 κ a0) (txC5 C a3) a1 a2 a4 = f5_Ta_reads (up5 κ a0) (txC5 C a3) a1 a2 a4 := rfl
  unfold w_Ta_reads_3
  refine ⟨fun n l0 l1 l2 l3 l4 l5 τ => n = (a2.toInt - l5.toInt).toNat ∧ ((κ = τ ∧ a0 = l0 ∧ a1 = l1 ∧ a2 = l2 ∧ a3 = l3 ∧ a4 = l4 ∧ 0 ≤ l5.toInt) ∧ ∃ m5, n < m5 ∧ f5_Ta_reads (up5 κ a0) (txC5 C a3) a1 a2 a4 = f5_Ta_reads_3 (up5 κ a0) (txC5 C a3) m5 l1 l2 l4 l5), ⟨_, rfl, ?_⟩, ?_⟩
  · refine and_5 ?_ (fun o9 => ⟨fu5, by have := a2.toInt_lt; unfold fu5; omega, hE⟩)  -- j1
    exact ⟨rfl, rfl, rfl, rfl, rfl, rfl, by decide⟩
  rintro n3 _ _ _ _ _ x3_5 _ W3 T3_0 T3_1 ⟨hn3, ⟨rfl, rfl, rfl, rfl, rfl, rfl, i3⟩, m3, hm3, hE⟩
  obtain ⟨m3, rfl⟩ : ∃ m9, m3 = m9 + 1 := ⟨m3 - 1, by omega⟩
  refine ⟨fun c1 => ?_, fun c1 => ?_⟩
  · skip
    replace hE := rb_t5 hE c1
    refine h _ ?_
    · refine and_5 ?_ (fun o9 => hE.symm)  -- q2
      trivial
  · skip
    replace hE := rb_f5 hE c1
    intro T2
    refine St_length_r5 W3 T2  (fun r3 q5 => ?_)
    obtain ⟨q5, z9⟩ := q5
    replace hE := rb_p5 hE z9
    intro W6
    intro M7
    refine ⟨fun c8 => ?_, fun c8 => ?_⟩
    · skip
      replace hE := rb_t5 hE c8
      refine h _ ?_
      · refine and_5 ?_ (fun o9 => hE.symm)  -- q3
        trivial
    · skip
      replace hE := rb_f5 hE c8
      intro T9
      refine Ta_byteAt_q5 W6 T9  ?_ (fun r10 q12 => ?_)
      · exact hp.1  -- p4
      obtain ⟨q12, z9⟩ := q12
      replace hE := rb_p5 hE z9
      intro W13
      intro M14
      intro T15
      refine St_charAt_r5 W13 T15  ?_ (fun r16 q18 => ?_)
      · rw [lei] at c1 c8
        have e : (a4 + x3_5).toInt = a4.toInt + x3_5.toInt := add_i (by omega) (by omega)
        rw [e]
        rw [q5, e] at c8
        omega
      obtain ⟨q18, z9⟩ := q18
      replace hE := rb_p5 hE z9
      intro W19
      intro M20
      refine ⟨fun c21 => ?_, fun c21 => ?_⟩
      · skip
        replace hE := rb_t5 hE c21
        intro x22 hx22
        replace hE := rb_p5 hE hx22
        refine lp_b5 ?_ (fun d9 => ⟨rfl, ?_⟩)
        · rw [lei] at c1
          have e1 := inc_i (x := x3_5) (y := a2) i3 (by omega)
          rw [hn3, hx22, e1]; omega
        · refine and_5 ?_ (fun o9 => ⟨m3, by omega, hE⟩)  -- i7
          rw [lei] at c1
          have e1 := inc_i (x := x3_5) (y := a2) i3 (by omega)
          exact ⟨rfl, rfl, rfl, rfl, rfl, rfl, by rw [hx22, e1]; omega⟩
      · skip
        replace hE := rb_f5 hE c21
        refine h _ ?_
        · refine and_5 ?_ (fun o9 => hE.symm)  -- q8
          trivial

theorem Ta_wordOf_q5 {C : zC} {n0 : Nat} {a0 : Nat} {a1 : Int32} {a2 : Int32} {κ : zS} {Q : Int32 → zS → Prop} (W : zW C n0 κ) (Ta0 : zT κ a0 = 13) (hx5 : tx5 C) (hp : taI κ a0) (h : ∀ (v : Int32), ((True) ∧ v = f5_Ta_wordOf (up5 κ a0) a1 a2) → Q v κ) : zRun C 11 mTa_wordOf [.ref a0, .int a1, .int a2] κ (oI Q noX) := by
  refine Ta_wordOf_run W Ta0 ?_
  replace W := W.lo (Nat.le_trans W.1.2.1 W.1.2.2) (Nat.le_refl (zn κ))
  unfold w_Ta_wordOf_0
  have tb := txL_b (W.1.1.2 0 (Or.inl rfl))
  have hE : f5_Ta_wordOf (up5 κ a0) a1 a2 = f5_Ta_wordOf (up5 κ a0) a1 a2 := rfl
  unfold w_Ta_wordOf_10
  refine ⟨fun n l0 l1 l2 l3 l4 l5 τ => n = (txL C (C.1 0) - l5.toInt).toNat ∧ ((κ = τ ∧ a0 = l0 ∧ a1 = l1 ∧ a2 = l2 ∧ (0 ≤ l5.toInt ∧ l5.toInt ≤ txL C (C.1 0)) ∧ (0 ≤ l4.toInt ∧ l4.toInt ≤ 65536)) ∧ ∃ m5, n < m5 ∧ f5_Ta_wordOf (up5 κ a0) a1 a2 = f5_Ta_wordOf_10 (up5 κ a0) m5 l1 l2 l3 l4 l5), ⟨_, rfl, ?_⟩, ?_⟩
  · refine and_5 ?_ (fun o9 => ⟨fu5, by unfold fu5; omega, hE⟩)  -- j1
    exact ⟨rfl, rfl, rfl, rfl, ⟨by decide, by rw [t0i]; omega⟩, by decide, by decide⟩
  rintro n10 _ _ _ x10_3 x10_4 x10_5 _ W10 T10_0 ⟨hn10, ⟨rfl, rfl, rfl, rfl, i10⟩, m10, hm10, hE⟩
  obtain ⟨m10, rfl⟩ : ∃ m9, m10 = m9 + 1 := ⟨m10 - 1, by omega⟩
  have hj62 : ∀ (l0 : Nat) (l1 : Int32) (l2 : Int32) (l3 : Int32) (l5 : Int32) (τ : zS), zW C (zn κ) τ → zT τ l0 = 13 → ((κ = τ ∧ a0 = l0 ∧ a1 = l1 ∧ a2 = l2 ∧ l5 = x10_5 ∧ l5.toInt < txL C (C.1 0)) ∧ f5_Ta_wordOf (up5 κ a0) a1 a2 = f5_Ta_wordOf_62 (up5 κ a0) (f5_Ta_wordOf_10 (up5 κ a0) m10) l1 l2 l3 l5) → w_Ta_wordOf_62 C (zn κ) Q (fun (l0' : Nat) (l1' : Int32) (l2' : Int32) (l3' : Int32) (l4' : Int32) (l5' : Int32) (τ : zS) => ∃ k < n10, (fun (n : Nat) (l0 : Nat) (l1 : Int32) (l2 : Int32) (l3 : Int32) (l4 : Int32) (l5 : Int32) (τ : zS) => n = (txL C (C.1 0) - l5.toInt).toNat ∧ ((κ = τ ∧ a0 = l0 ∧ a1 = l1 ∧ a2 = l2 ∧ (0 ≤ l5.toInt ∧ l5.toInt ≤ txL C (C.1 0)) ∧ (0 ≤ l4.toInt ∧ l4.toInt ≤ 65536)) ∧ ∃ m5, n < m5 ∧ f5_Ta_wordOf (up5 κ a0) a1 a2 = f5_Ta_wordOf_10 (up5 κ a0) m5 l1 l2 l3 l4 l5)) k l0' l1' l2' l3' l4' l5' τ) l0 l1 l2 l3 l5 τ := by
    rintro _ _ _ y62_3 y62_5 _ W62 T62_0 ⟨⟨rfl, rfl, rfl, rfl, j62⟩, hE⟩
    unfold w_Ta_wordOf_62
    intro x1 hx1
    replace hE := rb_p5 hE hx1
    intro x2 hx2
    replace hE := rb_p5 hE hx2
    intro x3 hx3
    replace hE := rb_p5 hE hx3
    refine lp_b5 ?_ (fun d9 => ⟨rfl, ?_⟩)
    · obtain ⟨e, l⟩ := j62
      have l0 := i10.1.1
      have e1 : (y62_5 + 1).toInt = y62_5.toInt + 1 := by rw [add_i (by rw [t1i, e]; omega) (by rw [t1i]; omega), t1i]
      rw [hn10, hx3, e1, e]; rw [e] at l; omega
    · refine and_5 ?_ (fun o9 => ⟨m10, by omega, hE⟩)  -- i3
      obtain ⟨e, l⟩ := j62
      have l0 := i10.1.1
      have e1 : (y62_5 + 1).toInt = y62_5.toInt + 1 := by rw [add_i (by rw [t1i, e]; omega) (by rw [t1i]; omega), t1i]
      exact ⟨rfl, rfl, rfl, rfl, ⟨by rw [hx3, e1, e]; omega, by rw [hx3, e1]; omega⟩, by rw [hx2, e1, e]; omega, by rw [hx2, e1]; omega⟩
  intro T4
  refine St_length_r5 W10 T4  (fun r5 q7 => ?_)
  obtain ⟨q7, z9⟩ := q7
  rw [hx5.1] at z9
  replace hE := rb_p5 hE z9
  intro W8
  intro M9
  refine ⟨fun c10 => ?_, fun c10 => ?_⟩
  · skip
    replace hE := rb_t5 hE c10
    refine h _ ?_
    · refine and_5 ?_ (fun o9 => hE.symm)  -- q4
      trivial
  · skip
    replace hE := rb_f5 hE c10
    rw [lei, q7] at c10
    have l0 := i10.1
    have e1 : (x10_5 + 1).toInt = x10_5.toInt + 1 := by rw [add_i (by rw [t1i]; omega) (by rw [t1i]; omega), t1i]
    refine ⟨fun c11 => ?_, fun c11 => ?_⟩
    · skip
      replace hE := rb_t5 hE c11
      refine h _ ?_
      · refine and_5 ?_ (fun o9 => hE.symm)  -- q5
        trivial
    · skip
      replace hE := rb_f5 hE c11
      intro T12
      refine St_charAt_r5 W8 T12  ?_ (fun r13 q15 => ?_)
      · exact ⟨l0.1, by omega⟩  -- p6
      obtain ⟨q15, z9⟩ := q15
      rw [hx5.1] at z9
      replace hE := rb_p5 hE z9
      intro W16
      intro M17
      refine ⟨fun c18 => ?_, fun c18 => ?_⟩
      · skip
        replace hE := rb_f5 hE c18
        intro x19 hx19
        replace hE := rb_p5 hE hx19
        refine lp_b5 ?_ (fun d9 => ⟨rfl, ?_⟩)
        · rw [hn10, hx19, e1]; omega  -- d7
        · refine and_5 ?_ (fun o9 => ⟨m10, by omega, hE⟩)  -- i8
          exact ⟨rfl, rfl, rfl, rfl, ⟨by rw [hx19, e1]; omega, by rw [hx19, e1]; omega⟩, i10.2⟩
      · skip
        replace hE := rb_t5 hE c18
        refine ⟨fun c20 => ?_, fun c20 => ?_⟩
        · skip
          replace hE := rb_f5 hE c20
          refine hj62 _ _ _ _ _ _ W16 ?_ ?_
          · exact T10_0  -- t9
          · refine and_5 ?_ (fun o9 => hE)  -- k10
            exact ⟨rfl, rfl, rfl, rfl, rfl, by omega⟩
        · skip
          replace hE := rb_t5 hE c20
          intro T21
          intro T22
          refine Ta_reads_q5 W16 T21 T22  ?_ (fun r23 q25 => ?_)
          · have e8 : (8 : Int32).toInt = 8 := rfl
            rw [lei, e8] at c11
            exact ⟨hp, i10.2.1, i10.2.2, by omega⟩
          obtain ⟨q25, z9⟩ := q25
          rw [hx5.1] at z9
          replace hE := rb_p5 hE z9
          intro W26
          intro M27
          refine ⟨fun c28 => ?_, fun c28 => ?_⟩
          · skip
            replace hE := rb_t5 hE c28
            refine hj62 _ _ _ _ _ _ W26 ?_ ?_
            · exact T10_0  -- t12
            · refine and_5 ?_ (fun o9 => hE)  -- k13
              exact ⟨rfl, rfl, rfl, rfl, rfl, by omega⟩
          · skip
            replace hE := rb_f5 hE c28
            refine h _ ?_
            · refine and_5 ?_ (fun o9 => hE.symm)  -- q14
              trivial

theorem Ta_kindOf_q5 {C : zC} {n0 : Nat} {a0 : Nat} {a1 : Int32} {a2 : Int32} {κ : zS} {Q : Int32 → zS → Prop} (W : zW C n0 κ) (Ta0 : zT κ a0 = 13) (hx5 : tx5 C) (hp : taI κ a0) (h : ∀ (v : Int32), ((True) ∧ v = f5_Ta_kindOf (up5 κ a0) a1 a2) → Q v κ) : zRun C 12 mTa_kindOf [.ref a0, .int a1, .int a2] κ (oI Q noX) := by
  refine Ta_kindOf_run W Ta0 ?_
  replace W := W.lo (Nat.le_trans W.1.2.1 W.1.2.2) (Nat.le_refl (zn κ))
  unfold w_Ta_kindOf_0
  have hE : f5_Ta_kindOf (up5 κ a0) a1 a2 = f5_Ta_kindOf (up5 κ a0) a1 a2 := rfl
  intro T1
  refine Ta_byteAt_q5 W T1  ?_ (fun r2 q4 => ?_)
  · exact hp  -- p1
  obtain ⟨q4, z9⟩ := q4
  replace hE := rb_p5 hE z9
  intro W5
  intro M6
  refine Ta_isLetter_q5 W5   (fun r7 q9 => ?_)
  obtain ⟨q9, z9⟩ := q9
  replace hE := rb_p5 hE z9
  intro W10
  intro M11
  refine ⟨fun c12 => ?_, fun c12 => ?_⟩
  · skip
    replace hE := rb_t5 hE c12
    refine Ta_isDigit_q5 W10   (fun r13 q15 => ?_)
    obtain ⟨q15, z9⟩ := q15
    replace hE := rb_p5 hE z9
    intro W16
    intro M17
    refine ⟨fun c18 => ?_, fun c18 => ?_⟩
    · skip
      replace hE := rb_t5 hE c18
      refine ⟨fun c19 => ?_, fun c19 => ?_⟩
      · skip
        replace hE := rb_f5 hE c19
        intro T20
        refine St_indexOf_r5 W16 T20  (fun r21 q23 => ?_)
        obtain ⟨q23, z9⟩ := q23
        rw [hx5.2.1] at z9
        replace hE := rb_p5 hE rfl
        have hl9 := ix_5 z9
        intro W24
        intro M25
        refine ⟨fun c26 => ?_, fun c26 => ?_⟩
        · skip
          replace hE := rb_t5 hE (hl9.mp c26)
          refine h _ ?_
          · refine and_5 ?_ (fun o9 => hE.symm)  -- q2
            trivial
        · skip
          replace hE := rb_f5 hE (fun z => c26 (hl9.mpr z))
          refine h _ ?_
          · refine and_5 ?_ (fun o9 => hE.symm)  -- q3
            trivial
      · skip
        replace hE := rb_t5 hE c19
        refine ⟨fun c27 => ?_, fun c27 => ?_⟩
        · skip
          replace hE := rb_f5 hE c27
          refine ⟨fun c28 => ?_, fun c28 => ?_⟩
          · skip
            replace hE := rb_f5 hE c28
            refine ⟨fun c29 => ?_, fun c29 => ?_⟩
            · skip
              replace hE := rb_f5 hE c29
              refine h _ ?_
              · refine and_5 ?_ (fun o9 => hE.symm)  -- q4
                trivial
            · skip
              replace hE := rb_t5 hE c29
              refine h _ ?_
              · refine and_5 ?_ (fun o9 => hE.symm)  -- q5
                trivial
          · skip
            replace hE := rb_t5 hE c28
            refine h _ ?_
            · refine and_5 ?_ (fun o9 => hE.symm)  -- q6
              trivial
        · skip
          replace hE := rb_t5 hE c27
          refine h _ ?_
          · refine and_5 ?_ (fun o9 => hE.symm)  -- q7
            trivial
    · skip
      replace hE := rb_f5 hE c18
      refine ⟨fun c30 => ?_, fun c30 => ?_⟩
      · skip
        replace hE := rb_t5 hE c30
        refine h _ ?_
        · refine and_5 ?_ (fun o9 => hE.symm)  -- q8
          trivial
      · skip
        replace hE := rb_f5 hE c30
        refine h _ ?_
        · refine and_5 ?_ (fun o9 => hE.symm)  -- q9
          trivial
  · skip
    replace hE := rb_f5 hE c12
    refine ⟨fun c31 => ?_, fun c31 => ?_⟩
    · skip
      replace hE := rb_t5 hE c31
      intro T32
      refine Ta_wordOf_q5 W10 T32 hx5 ?_ (fun r33 q35 => ?_)
      · exact hp  -- p10
      obtain ⟨q35, z9⟩ := q35
      replace hE := rb_p5 hE z9
      intro W36
      intro M37
      refine h _ ?_
      · refine and_5 ?_ (fun o9 => hE.symm)  -- q11
        trivial
    · skip
      replace hE := rb_f5 hE c31
      refine h _ ?_
      · refine and_5 ?_ (fun o9 => hE.symm)  -- q12
        trivial

theorem Ta_isMain_q5 {C : zC} {n0 : Nat} {a0 : Nat} {a1 : Int32} {κ : zS} {Q : Int32 → zS → Prop} (W : zW C n0 κ) (Ta0 : zT κ a0 = 13) (hx5 : tx5 C) (hp : taI κ a0 ∧ tokI κ a0) (h : ∀ (v : Int32), ((True) ∧ v = f5_Ta_isMain (tpT5 κ a0) a1) → Q v κ) : zRun C 11 mTa_isMain [.ref a0, .int a1] κ (oI Q noX) := by
  refine Ta_isMain_run W Ta0 ?_
  replace W := W.lo (Nat.le_trans W.1.2.1 W.1.2.2) (Nat.le_refl (zn κ))
  unfold w_Ta_isMain_0
  have hE : f5_Ta_isMain (tpT5 κ a0) a1 = f5_Ta_isMain (tpT5 κ a0) a1 := rfl
  refine ⟨fun c1 => ?_, fun c1 => ?_⟩
  · skip
    replace hE := rb_t5 hE c1
    refine h _ ?_
    · refine and_5 ?_ (fun o9 => hE.symm)  -- q1
      trivial
  · skip
    replace hE := rb_f5 hE c1
    refine ⟨fun c2 => ?_, fun c2 => ?_⟩
    · skip
      replace hE := rb_t5 hE c2
      refine h _ ?_
      · refine and_5 ?_ (fun o9 => hE.symm)  -- q2
        trivial
    · skip
      replace hE := rb_f5 hE c2
      refine ⟨?_, ?_⟩
      · have B := hp.1.2
        rw [lti, t0i] at c1
        rw [lei] at c2
        rw [inb_iff]; omega
      refine ⟨fun c3 => ?_, fun c3 => ?_⟩
      · skip
        replace hE := rb_f5 hE c3
        refine h _ ?_
        · refine and_5 ?_ (fun o9 => hE.symm)  -- q4
          trivial
      · skip
        replace hE := rb_t5 hE c3
        refine ⟨?_, ?_⟩
        · have B := hp.1.2
          rw [lti, t0i] at c1
          rw [lei] at c2
          rw [inb_iff]; omega
        intro T4
        intro T5
        refine Ta_reads_q5 W T4 T5  ?_ (fun r6 q8 => ?_)
        · exact ⟨hp.1, by decide, by decide, by decide⟩  -- p6
        obtain ⟨q8, z9⟩ := q8
        rw [hx5.2.2] at z9
        replace hE := rb_p5 hE z9
        intro W9
        intro M10
        refine ⟨fun c11 => ?_, fun c11 => ?_⟩
        · skip
          replace hE := rb_t5 hE c11
          refine h _ ?_
          · refine and_5 ?_ (fun o9 => hE.symm)  -- q7
            trivial
        · skip
          replace hE := rb_f5 hE c11
          refine h _ ?_
          · refine and_5 ?_ (fun o9 => hE.symm)  -- q8
            trivial

end
section
set_option maxHeartbeats 1600000
/-! the code's own: rows and words -/
theorem in_d5 : ∀ g, g ∈ in5 → (g < 600) ∨ (¬ g < 600 ∧ g < 1100) ∨ (¬ g < 600 ∧ ¬ g < 1100) := by decide
theorem fx_d5 : ∀ g, g ∈ fx5 → ¬ g < 600 → g ≠ 1015 := by decide
/-- what the parser and the tape own stays where the code alone was touched -/
theorem cd_o5 {C : zC} {n0 p g : Nat} {κ τ : zS} (W : zW C n0 κ) (T : zT κ p = 10) (Z : zF (objF (zR κ paCode p)) κ τ) (hg : ¬ g < 600) : zI τ g (ow5 κ p g) = zI κ g (ow5 κ p g) ∧ zR τ g (ow5 κ p g) = zR κ g (ow5 κ p g) := by
  have n := pa_ne W T
  unfold ow5
  rw [if_neg hg]
  by_cases h : g < 1100
  · rw [if_pos h]
    exact ⟨Z.i (fun e => n.2.1 e.symm), Z.r (fun e => n.2.1 e.symm)⟩
  · rw [if_neg h]
    exact ⟨Z.i (fun e => n.2.2 e), Z.r (fun e => n.2.2 e)⟩
theorem cd_w5 {C : zC} {n0 p g : Nat} {κ τ : zS} (W : zW C n0 κ) (T : zT κ p = 10) (Z : zF (objF (zR κ paCode p)) κ τ) (hg : ¬ g < 600) (ha : g ∈ al5) : zA τ (zR τ g (ow5 κ p g)) = zA κ (zR κ g (ow5 κ p g)) ∧ zN τ (zR τ g (ow5 κ p g)) = zN κ (zR κ g (ow5 κ p g)) := by
  obtain ⟨t, hr, ht⟩ := al_r5 g ha
  have n := pa_ne W T
  have o : ¬ objF (zR κ paCode p) g (ow5 κ p g) := fun e => by
    have e' : ow5 κ p g = zR κ paCode p := e
    unfold ow5 at e'
    rw [if_neg hg] at e'
    by_cases h : g < 1100
    · rw [if_pos h] at e'
      exact n.2.1 e'.symm
    · rw [if_neg h] at e'
      exact n.2.2 e'
  refine ⟨(Z.row W hr ht (al_t5 W T ha) o).1, ?_⟩
  rw [(cd_o5 W T Z hg).2]
  have y := W.r hr (al_t5 W T ha)
  exact Z.l (c := t - 1) (by omega)
theorem cd_p5 {C : zC} {n0 p g : Nat} {κ τ : zS} (W : zW C n0 κ) (T : zT κ p = 10) (Z : zF (objF (zR κ paCode p)) κ τ) : ow5 τ p g = ow5 κ p g := by
  have n := pa_ne W T
  unfold ow5
  rw [Z.r (f := paCode) (a := p) (fun e => n.2.1 e.symm), Z.r (f := paTape) (a := p) (fun e => n.2.1 e.symm)]
/-- the record, where the code alone was touched -/
theorem cd_5 {C : zC} {n0 p : Nat} {κ τ : zS} {I : Nat → Int32} {A : Nat → Nat → Int32} (W : zW C n0 κ) (T : zT κ p = 10) (Z : zF (objF (zR κ paCode p)) κ τ) (hI : ∀ g, g ∈ in5 → g < 600 → zI τ g (zR κ paCode p) = I g) (hJ : ∀ g, ¬ (g ∈ in5 ∧ g < 600) → I g = (ab5 κ p).1 g)
    (hG : ∀ g, (g = 506 ∨ g = 507 ∨ g = 508) → ∀ j, (j < bd5 I g → zA τ (zR τ g (zR κ paCode p)) j = A g j) ∧ (¬ j < bd5 I g → A g j = 0)) (hF : ∀ g, g ∈ fx5 → g < 600 → zA τ (zR τ g (zR κ paCode p)) = zA κ (zR κ g (zR κ paCode p)) ∧ zN τ (zR τ g (zR κ paCode p)) = zN κ (zR κ g (zR κ paCode p))) (hA : ∀ g, ¬ (g = 506 ∨ g = 507 ∨ g = 508) → A g = (ab5 κ p).2.1 g) : ab5 τ p = (I, A, (ab5 κ p).2.2) := by
  have hc : ∀ g, g < 600 → ow5 κ p g = zR κ paCode p := fun g h => if_pos h
  refine ab_mk5 (fun g => ?_) (fun g hg j => ?_) (fun g hg => ?_) (fun g a b => ?_) (fun g a => ab_N5 a)
  · unfold ai5
    rw [cd_p5 W T Z]
    by_cases h : g ∈ in5
    · rw [if_pos h]
      by_cases h6 : g < 600
      · rw [hc g h6]; exact hI g h h6
      · rw [hJ g (fun z => h6 z.2), (cd_o5 W T Z h6).1]
        exact (if_pos h).symm
    · rw [if_neg h, hJ g (fun z => h z.1)]
      exact (if_neg h).symm
  · rw [cd_p5 W T Z]
    rcases hg with rfl | hg
    · have e := (cd_w5 W T Z (g := 1015) (by decide) (by decide)).1
      have b : bd5 I 1015 = bd5 (ai5 κ p) 1015 := by
        unfold bd5
        rw [if_pos rfl, if_pos rfl, hJ 1016 (fun z => absurd z.2 (by decide))]
        rfl
      rw [e, hA 1015 (by decide), b]
      exact ⟨fun hj => (ab_G5 (Or.inl rfl) hj).symm, fun hj => ab_Z5 (Or.inl rfl) hj⟩
    · have h6 : g < 600 := by rcases hg with rfl | rfl | rfl <;> decide
      rw [hc g h6]
      exact hG g hg j
  · rw [cd_p5 W T Z]
    have ng : ¬ (g = 506 ∨ g = 507 ∨ g = 508) := fun z => fx_gr5 g hg (Or.inr z)
    rw [hA g ng, (ab_F5 hg).1, (ab_F5 hg).2]
    by_cases h6 : g < 600
    · rw [hc g h6]
      exact hF g hg h6
    · exact cd_w5 W T Z h6 (fx_al5 g hg)
  · rw [hA g (fun z => a (Or.inr z))]
    exact ab_O5 a b
theorem bdr5 {κ : zS} {p : Nat} : bd5 (ai5 κ p) 506 = 11 * (zI κ coStatements (zR κ paCode p)).toNatClampNeg ∧ bd5 (ai5 κ p) 507 = (zI κ coLength (zR κ paCode p)).toNatClampNeg ∧ bd5 (ai5 κ p) 508 = (zI κ coLength (zR κ paCode p)).toNatClampNeg ∧ bd5 (ai5 κ p) 1015 = (zI κ paWaits p).toNatClampNeg := ⟨rfl, rfl, rfl, rfl⟩
/-- a row that grows stored to, below its end -/
theorem ab_ug5 {C : zC} {n0 : Nat} {κ τ : zS} {p f i : Nat} {x : Int32} (W : zW C n0 κ) (T : zT κ p = 10) (h : τ = ua κ (zR κ f (ow5 κ p f)) i x) (hf : f = 1015 ∨ f = 506 ∨ f = 507 ∨ f = 508) (hi : i < bd5 (ai5 κ p) f) : sa5 f i x (ab5 κ p) = .inl (ab5 τ p, ()) := by
  have e : ab5 τ p = ((ab5 κ p).1, fun g j => if g = f ∧ j = i then x else (ab5 κ p).2.1 g j, (ab5 κ p).2.2) := by
    have ne : ∀ g, g ∈ al5 → g ≠ f → zA τ (zR τ g (ow5 τ p g)) = zA κ (zR κ g (ow5 κ p g)) := fun g hg z => by
      subst h
      exact if_neg (al_n5 W T hg (gr_al5 f hf) z)
    refine ab_mk5 (fun g => by rw [h]; rfl) (fun g hg j => ?_) (fun g hg => ?_) (fun g a b => ?_) (fun g a => ab_N5 a)
    · by_cases z : g = f
      · subst z
        have e1 : zA τ (zR τ g (ow5 τ p g)) j = if j = i then x else zA κ (zR κ g (ow5 κ p g)) j := by
          subst h
          show (if zR κ g (ow5 κ p g) = zR κ g (ow5 κ p g) then upd (zA κ (zR κ g (ow5 κ p g))) i x else _) j = _
          rw [if_pos rfl]
          rfl
        rw [e1]
        by_cases y : j = i
        · rw [if_pos y, if_pos ⟨rfl, y⟩]
          exact ⟨fun _ => rfl, fun q => absurd (y ▸ hi) q⟩
        · rw [if_neg y, if_neg (fun q => y q.2)]
          exact ⟨fun hj => (ab_G5 hg hj).symm, fun hj => ab_Z5 hg hj⟩
      · rw [if_neg (fun q => z q.1), ne g (gr_al5 g hg) z]
        exact ⟨fun hj => (ab_G5 hg hj).symm, fun hj => ab_Z5 hg hj⟩
    · have z : g ≠ f := fun q => fx_gr5 g hg (q ▸ hf)
      refine ⟨?_, by rw [(ab_F5 hg).2, h]; rfl⟩
      funext j
      rw [if_neg (fun q => z q.1), ne g (fx_al5 g hg) z, (ab_F5 hg).1]
    · funext j
      show (if g = f ∧ j = i then x else (ab5 κ p).2.1 g j) = 0
      rw [if_neg (fun (q : g = f ∧ j = i) => a (q.1 ▸ hf)), ab_O5 a b]
  rw [e]
  rfl
theorem clk5 {x y : Int32} {n : Nat} (h0 : 0 ≤ x.toInt) (h : x.toInt < n) : x.toNatClampNeg < n := by
  have := cnk h0
  omega
theorem col_b5 {s c st : Int32} (h0 : ¬ s < 0) (h1 : ¬ st ≤ s) (hs : st.toInt ≤ 150) (p0 : 0 ≤ c.toInt) (p1 : c.toInt < 11) : (s * 11 + c).toNatClampNeg < 11 * st.toNatClampNeg := by
  rw [lti, t0i] at h0
  rw [lei] at h1
  have e := col_i (x := s) (y := c) (by omega) (by omega) p0 p1
  have a := cnk (x := s * 11 + c) (by omega)
  have b := cnk (x := st) (by omega)
  omega
/-- a row that grows made anew, longer: nothing of the record changes -/
theorem gwR_5 {C : zC} {n0 p f : Nat} {κ κ2 : zS} (W : zW C n0 κ) (T : zT κ p = 10) (hf : f = 1015 ∨ f = 506 ∨ f = 507 ∨ f = 508) (u1 : zI κ2 = zI κ) (u2 : ∀ g b, ¬ (g = f ∧ b = ow5 κ p f) → zR κ2 g b = zR κ g b) (u5 : ∀ x d, zT κ x = d + 1 → zN κ2 x = zN κ x ∧ zA κ2 x = zA κ x) (u6 : ∀ i, i < bd5 (ai5 κ p) f → zA κ2 (zR κ2 f (ow5 κ p f)) i = zA κ (zR κ f (ow5 κ p f)) i) : ab5 κ2 p = ab5 κ p := by
  have hc : ∀ g, g = paCode ∨ g = paTape → zR κ2 g p = zR κ g p := fun g hg => u2 g p (fun z => by
    have z1 := z.1
    rcases hg with e | e <;> rcases hf with y | y | y | y <;> (rw [e, y] at z1; exact absurd z1 (by decide)))
  have ho : ∀ g, ow5 κ2 p g = ow5 κ p g := fun g => by
    unfold ow5
    rw [hc paCode (Or.inl rfl), hc paTape (Or.inr rfl)]
  have hi : ∀ g, ai5 κ2 p g = ai5 κ p g := fun g => by
    unfold ai5
    rw [ho, u1]
  have hr : ∀ g, g ∈ al5 → g ≠ f → zA κ2 (zR κ2 g (ow5 κ2 p g)) = zA κ (zR κ g (ow5 κ p g)) ∧ zN κ2 (zR κ2 g (ow5 κ2 p g)) = zN κ (zR κ g (ow5 κ p g)) := fun g hg z => by
    obtain ⟨t, a, b⟩ := al_r5 g hg
    have y := W.r a (al_t5 W T hg)
    have q := u5 (zR κ g (ow5 κ p g)) (t - 1) (by omega)
    rw [ho, u2 g _ (fun w => z w.1)]
    exact ⟨q.2, q.1⟩
  refine ab_mk5 (I := (ab5 κ p).1) (A := (ab5 κ p).2.1) (N := (ab5 κ p).2.2) hi (fun g hg j => ?_) (fun g hg => ?_) (fun g a b => ab_O5 a b) (fun g a => ab_N5 a)
  · refine ⟨fun hj => ?_, fun hj => ab_Z5 hg hj⟩
    rw [ab_G5 hg hj]
    by_cases z : g = f
    · subst z
      rw [ho]
      exact u6 j hj
    · rw [(hr g (gr_al5 g hg) z).1]
  · rw [(ab_F5 hg).1, (ab_F5 hg).2]
    exact hr g (fx_al5 g hg) (fun z => fx_gr5 g hg (z ▸ hf))
/-- a number and rows stored at once: what is counted grows -/
theorem pu_5 {C : zC} {n0 p cf : Nat} {τ κ5 : zS} {x : Int32} {V : Nat → Nat → Int32} (W : zW C n0 τ) (T : zT τ p = 10) (hcf : cf ∈ in5) (hi : zI κ5 = fun g b => if g = cf ∧ b = ow5 τ p cf then x else zI τ g b) (hr : zR κ5 = zR τ) (hn : zN κ5 = zN τ) (ha : ∀ g, g ∈ fx5 → zA κ5 (zR τ g (ow5 τ p g)) = zA τ (zR τ g (ow5 τ p g)))
    (hb : ∀ g, g = 1015 ∨ g = 506 ∨ g = 507 ∨ g = 508 → ∀ j, (j < bd5 (ai5 τ p) g → j < bd5 (fun g => if g = cf then x else (ab5 τ p).1 g) g ∧ zA κ5 (zR τ g (ow5 τ p g)) j = zA τ (zR τ g (ow5 τ p g)) j) ∧ (¬ j < bd5 (ai5 τ p) g → j < bd5 (fun g => if g = cf then x else (ab5 τ p).1 g) g → zA κ5 (zR τ g (ow5 τ p g)) j = V g j)) :
    ab5 κ5 p = (fun g => if g = cf then x else (ab5 τ p).1 g, fun g j => if (g = 1015 ∨ g = 506 ∨ g = 507 ∨ g = 508) ∧ ¬ j < bd5 (ai5 τ p) g ∧ j < bd5 (fun g => if g = cf then x else (ab5 τ p).1 g) g then V g j else (ab5 τ p).2.1 g j, (ab5 τ p).2.2) := by
  have ho : ∀ g, ow5 κ5 p g = ow5 τ p g := fun g => by
    unfold ow5
    rw [hr]
  refine ab_mk5 (fun g => ?_) (fun g hg j => ?_) (fun g hg => ?_) (fun g a b => ?_) (fun g a => ab_N5 a)
  · unfold ai5
    rw [ho, hi]
    show (if g ∈ in5 then (if g = cf ∧ ow5 τ p g = ow5 τ p cf then x else zI τ g (ow5 τ p g)) else 0) = if g = cf then x else (if g ∈ in5 then zI τ g (ow5 τ p g) else 0)
    by_cases z : g = cf
    · subst z
      rw [if_pos hcf, if_pos ⟨rfl, rfl⟩, if_pos rfl]
    · rw [if_neg z]
      by_cases y : g ∈ in5
      · rw [if_pos y, if_pos y, if_neg (fun q => z q.1)]
      · rw [if_neg y, if_neg y]
  · rw [ho, hr]
    by_cases h0 : j < bd5 (ai5 τ p) g
    · have q := (hb g hg j).1 h0
      rw [if_neg (fun z => z.2.1 h0), q.2, ab_G5 hg h0]
      exact ⟨fun _ => rfl, fun z => absurd q.1 z⟩
    · by_cases h1 : j < bd5 (fun g => if g = cf then x else (ab5 τ p).1 g) g
      · rw [if_pos ⟨hg, h0, h1⟩]
        exact ⟨fun _ => (hb g hg j).2 h0 h1, fun z => absurd h1 z⟩
      · rw [if_neg (fun z => h1 z.2.2)]
        exact ⟨fun z => absurd z h1, fun _ => ab_Z5 hg h0⟩
  · rw [ho, hr, hn, ha g hg, (ab_F5 hg).2]
    refine ⟨?_, rfl⟩
    funext j
    rw [if_neg (fun z => fx_gr5 g hg z.1), (ab_F5 hg).1]
  · funext j
    rw [if_neg (fun z => a z.1), ab_O5 a b]
theorem bdw5 {I : Nat → Int32} : bd5 I 1015 = (I 1016).toNatClampNeg := if_pos rfl
theorem bdr_5 {I : Nat → Int32} : bd5 I 506 = 11 * (I 513).toNatClampNeg := (if_neg (by decide)).trans (if_pos rfl)
theorem bdo5 {I : Nat → Int32} : bd5 I 507 = (I 515).toNatClampNeg := (if_neg (by decide)).trans (if_neg (by decide))
theorem bda5 {I : Nat → Int32} : bd5 I 508 = (I 515).toNatClampNeg := (if_neg (by decide)).trans (if_neg (by decide))
/-- bounds of rows where one count was stored -/
theorem bu_w5 {I : Nat → Int32} {cf : Nat} {x : Int32} (h : 1016 ≠ cf) : bd5 (fun g => if g = cf then x else I g) 1015 = bd5 I 1015 := by rw [bdw5, bdw5, if_neg h]
theorem bu_r5 {I : Nat → Int32} {cf : Nat} {x : Int32} (h : 513 ≠ cf) : bd5 (fun g => if g = cf then x else I g) 506 = bd5 I 506 := by rw [bdr_5, bdr_5, if_neg h]
theorem bu_o5 {I : Nat → Int32} {cf : Nat} {x : Int32} (h : 515 ≠ cf) : bd5 (fun g => if g = cf then x else I g) 507 = bd5 I 507 := by rw [bdo5, bdo5, if_neg h]
theorem bu_a5 {I : Nat → Int32} {cf : Nat} {x : Int32} (h : 515 ≠ cf) : bd5 (fun g => if g = cf then x else I g) 508 = bd5 I 508 := by rw [bda5, bda5, if_neg h]
theorem inc_n5 {x : Int32} {n : Nat} (h0 : 0 ≤ x.toInt) (h : x.toInt < n) (hn : n ≤ 100000) : (x + 1).toNatClampNeg = x.toNatClampNeg + 1 := by
  have e : (x + 1).toInt = x.toInt + 1 := by rw [add_i (by rw [t1i]; omega) (by rw [t1i]; omega), t1i]
  have a := cnk h0
  have b := cnk (x := x + 1) (by omega)
  omega
theorem upd_5 {r : Nat → Int32} {i j : Nat} {x : Int32} : upd r i x j = if j = i then x else r j := rfl
/-- one word of code more -/
theorem em_5 {C : zC} {n0 p : Nat} {τ κ1 κ3 κ5 : zS} {o a : Int32} (W : zW C n0 τ) (T : zT τ p = 10) (h1 : κ1 = ua τ (zR τ coOps (zR τ paCode p)) (zI τ coLength (zR τ paCode p)).toNatClampNeg o) (h3 : κ3 = ua κ1 (zR κ1 coArgs (zR τ paCode p)) (zI κ1 coLength (zR τ paCode p)).toNatClampNeg a) (h5 : κ5 = ui κ3 coLength (zR τ paCode p) (zI κ3 coLength (zR τ paCode p) + 1)) (l0 : 0 ≤ (zI τ coLength (zR τ paCode p)).toInt) (l1 : (zI τ coLength (zR τ paCode p)).toInt < (20500 : Nat)) : f5_Co_emit o a (ab5 τ p) = .inl (ab5 κ5 p, ()) := by
  have nA : ∀ g, g ∈ al5 → g ≠ 508 → zR τ g (ow5 τ p g) ≠ zR τ coArgs (zR τ paCode p) := fun g hg z => al_n5 W T (f := g) (g := 508) hg (by decide) z
  have nO : ∀ g, g ∈ al5 → g ≠ 507 → zR τ g (ow5 τ p g) ≠ zR τ coOps (zR τ paCode p) := fun g hg z => al_n5 W T (f := g) (g := 507) hg (by decide) z
  have hne : zR τ coArgs (zR τ paCode p) ≠ zR τ coOps (zR τ paCode p) := nO 508 (by decide) (by decide)
  obtain ⟨c, hc⟩ : ∃ c, c = zR τ paCode p := ⟨_, rfl⟩
  rw [← hc] at h1 h3 h5 l0 l1 nA nO hne
  have hL := inc_n5 l0 l1 (by decide)
  obtain ⟨L, hLL⟩ : ∃ L, L = zI τ coLength c := ⟨_, rfl⟩
  have i3 : zI κ3 coLength c = L := by rw [hLL]; subst h1 h3; rfl
  have i1 : zI κ1 coLength c = L := by rw [hLL]; subst h1; rfl
  rw [i3] at h5
  rw [i1] at h3
  rw [← hLL] at h1 l0 l1 hL
  have eL : (ab5 τ p).1 515 = L := by rw [hLL, hc]; rfl
  have r1 : zR κ1 = zR τ := by rw [h1]; rfl
  rw [r1] at h3
  have hA : ∀ b, zA κ5 b = if b = zR τ coArgs c then upd (zA τ (zR τ coArgs c)) L.toNatClampNeg a else if b = zR τ coOps c then upd (zA τ (zR τ coOps c)) L.toNatClampNeg o else zA τ b := fun b => by
    rw [h5, h3, h1]
    show (if b = zR τ coArgs c then upd (if zR τ coArgs c = zR τ coOps c then _ else zA τ (zR τ coArgs c)) _ a else _) = _
    rw [if_neg hne]
    rfl
  have hr : zR κ5 = zR τ := by rw [h5, h3, h1]; rfl
  have hn : zN κ5 = zN τ := by rw [h5, h3, h1]; rfl
  have hi : zI κ5 = fun g b => if g = 515 ∧ b = ow5 τ p 515 then L + 1 else zI τ g b := by rw [h5, h3, h1, hc]; rfl
  have b7 : bd5 (ai5 τ p) 507 = L.toNatClampNeg := by rw [bdo5]; exact congrArg Int32.toNatClampNeg eL
  have b8 : bd5 (ai5 τ p) 508 = L.toNatClampNeg := by rw [bda5]; exact congrArg Int32.toNatClampNeg eL
  have d7 : bd5 (fun g => if g = 515 then L + 1 else (ab5 τ p).1 g) 507 = L.toNatClampNeg + 1 := by rw [bdo5, if_pos rfl, hL]
  have d8 : bd5 (fun g => if g = 515 then L + 1 else (ab5 τ p).1 g) 508 = L.toNatClampNeg + 1 := by rw [bda5, if_pos rfl, hL]
  have d6 : bd5 (fun g => if g = 515 then L + 1 else (ab5 τ p).1 g) 506 = bd5 (ai5 τ p) 506 := bu_r5 (by decide)
  have d1 : bd5 (fun g => if g = 515 then L + 1 else (ab5 τ p).1 g) 1015 = bd5 (ai5 τ p) 1015 := bu_w5 (by decide)
  have e := pu_5 (cf := 515) (κ5 := κ5) (x := L + 1) (V := fun g _ => if g = 507 then o else a) W T (by decide) hi hr hn (fun g hg => by
    rw [hA, if_neg (nA g (fx_al5 g hg) (fun z => fx_gr5 g hg (Or.inr (Or.inr (Or.inr z))))), if_neg (nO g (fx_al5 g hg) (fun z => fx_gr5 g hg (Or.inr (Or.inr (Or.inl z)))))]) (fun g hg j => by
    rcases hg with rfl | rfl | rfl | rfl
    · rw [hA, if_neg (nA 1015 (by decide) (by decide)), if_neg (nO 1015 (by decide) (by decide)), d1]
      exact ⟨fun hj => ⟨hj, rfl⟩, fun a b => absurd b a⟩
    · rw [hA, if_neg (nA 506 (by decide) (by decide)), if_neg (nO 506 (by decide) (by decide)), d6]
      exact ⟨fun hj => ⟨hj, rfl⟩, fun a b => absurd b a⟩
    · have hq : zR τ 507 (ow5 τ p 507) = zR τ coOps c := by rw [hc]; rfl
      rw [hA, if_neg (nA 507 (by decide) (by decide)), hq, if_pos rfl, b7, d7, upd_5, if_pos rfl]
      exact ⟨fun hj => ⟨by omega, if_neg (by omega)⟩, fun a b => if_pos (by omega)⟩
    · have hq : zR τ 508 (ow5 τ p 508) = zR τ coArgs c := by rw [hc]; rfl
      rw [hA, hq, if_pos rfl, b8, d8, upd_5, if_neg (show ¬ (508 : Nat) = 507 by decide)]
      exact ⟨fun hj => ⟨by omega, if_neg (by omega)⟩, fun a b => if_pos (by omega)⟩)
  rw [e]
  unfold f5_Co_emit
  rw [eL]
  refine congrArg Sum.inl (congrArg (fun z => (z, ())) (congrArg (Prod.mk _) (congrArg (fun z => (z, (ab5 τ p).2.2)) ?_)))
  funext g j
  show (if g = 507 ∧ j = L.toNatClampNeg then o else if g = 508 ∧ j = L.toNatClampNeg then a else (ab5 τ p).2.1 g j) = if _ ∧ _ ∧ _ then (if g = 507 then o else a) else (ab5 τ p).2.1 g j
  by_cases z : g = 507
  · subst z
    rw [d7, b7]
    by_cases y : j = L.toNatClampNeg
    · rw [if_pos ⟨rfl, y⟩, if_pos ⟨Or.inr (Or.inr (Or.inl rfl)), by omega, by omega⟩, if_pos rfl]
    · rw [if_neg (fun q => y q.2), if_neg (fun q => absurd q.1 (by decide)), if_neg (fun q => by have := q.2; omega)]
  · rw [if_neg (fun q => z q.1)]
    by_cases w : g = 508
    · subst w
      rw [d8, b8]
      by_cases y : j = L.toNatClampNeg
      · rw [if_pos ⟨rfl, y⟩, if_pos ⟨Or.inr (Or.inr (Or.inr rfl)), by omega, by omega⟩, if_neg (show ¬ (508 : Nat) = 507 by decide)]
      · rw [if_neg (fun q => y q.2), if_neg (fun q => by have := q.2; omega)]
    · rw [if_neg (fun q => w q.1), if_neg (fun q => by
        rcases q with ⟨y | y | y | y, q1, q2⟩
        · subst y; rw [d1] at q2; exact q1 q2
        · subst y; rw [d6] at q2; exact q1 q2
        · exact z y
        · exact w y)]
theorem ff_5 {r : Nat → Int32} {lo hi j : Nat} {x : Int32} : (fun k => if lo ≤ k ∧ k < hi then x else r k) j = if lo ≤ j ∧ j < hi then x else r j := rfl
/-- one statement more -/
theorem sm_5 {C : zC} {n0 p i1 i3 i4 : Nat} {τ κ2 κ6 κ8 κ10 κ12 : zS} (W : zW C n0 τ) (T : zT τ p = 10) (h2 : κ2 = uff τ (zR τ coRows (zR τ paCode p)) (11 * (zI τ coStatements (zR τ paCode p)).toNatClampNeg) (11 * (zI τ coStatements (zR τ paCode p)).toNatClampNeg + 11) (-1)) (h6 : κ6 = ua κ2 (zR κ2 coRows (zR τ paCode p)) i1 0) (h8 : κ8 = ua κ6 (zR κ6 coRows (zR τ paCode p)) i3 (zI κ6 coLength (zR τ paCode p))) (h10 : κ10 = ua κ8 (zR κ8 coRows (zR τ paCode p)) i4 0) (h12 : κ12 = ui κ10 coStatements (zR τ paCode p) (zI κ10 coStatements (zR τ paCode p) + 1)) (e1 : i1 = 11 * (zI τ coStatements (zR τ paCode p)).toNatClampNeg + 1) (e3 : i3 = 11 * (zI τ coStatements (zR τ paCode p)).toNatClampNeg + 3) (e4 : i4 = 11 * (zI τ coStatements (zR τ paCode p)).toNatClampNeg + 4) (l0 : 0 ≤ (zI τ coStatements (zR τ paCode p)).toInt) (l1 : (zI τ coStatements (zR τ paCode p)).toInt < (150 : Nat)) : f5_Co_addStatement (ab5 τ p) = .inl (ab5 κ12 p, zI τ coStatements (zR τ paCode p)) := by
  have nR : ∀ g, g ∈ al5 → g ≠ 506 → zR τ g (ow5 τ p g) ≠ zR τ coRows (zR τ paCode p) := fun g hg z => al_n5 W T (f := g) (g := 506) hg (by decide) z
  have eS : (ab5 τ p).1 513 = zI τ coStatements (zR τ paCode p) := rfl
  have eN : (ab5 τ p).1 515 = zI τ coLength (zR τ paCode p) := rfl
  have o13 : ow5 τ p 513 = zR τ paCode p := rfl
  have o06 : zR τ 506 (ow5 τ p 506) = zR τ coRows (zR τ paCode p) := rfl
  obtain ⟨c, hc⟩ : ∃ c, c = zR τ paCode p := ⟨_, rfl⟩
  rw [← hc] at h2 h6 h8 h10 h12 e1 e3 e4 l0 l1 nR eS eN o13 o06 ⊢
  obtain ⟨S, hS⟩ : ∃ S, S = zI τ coStatements c := ⟨_, rfl⟩
  have hL := inc_n5 l0 l1 (by decide)
  have r2 : zR κ2 = zR τ := by rw [h2]; rfl
  rw [r2] at h6
  have r6 : zR κ6 = zR τ := by rw [h6]; exact r2
  have j6 : zI κ6 coLength c = zI τ coLength c := by rw [h6, h2]; rfl
  rw [r6, j6] at h8
  have r8 : zR κ8 = zR τ := by rw [h8]; exact r6
  rw [r8] at h10
  have j10 : zI κ10 coStatements c = zI τ coStatements c := by rw [h10, h8, h6, h2]; rfl
  rw [j10] at h12
  rw [← hS] at h2 h12 e1 e3 e4 l0 l1 hL eS ⊢
  have hA : ∀ b, zA κ12 b = if b = zR τ coRows c then (fun j => if j = i4 then 0 else if j = i3 then zI τ coLength c else if j = i1 then 0 else if 11 * S.toNatClampNeg ≤ j ∧ j < 11 * S.toNatClampNeg + 11 then -1 else zA τ (zR τ coRows c) j) else zA τ b := fun b => by
    rw [h12, h10, h8, h6, h2]
    by_cases z : b = zR τ coRows c
    · subst z
      rw [if_pos rfl]
      funext j
      show (if zR τ coRows c = zR τ coRows c then upd (if zR τ coRows c = zR τ coRows c then upd (if zR τ coRows c = zR τ coRows c then upd (if zR τ coRows c = zR τ coRows c then _ else _) i1 0 else _) i3 _ else _) i4 0 else _) j = _
      rw [if_pos rfl, if_pos rfl, if_pos rfl, if_pos rfl]
      rfl
    · rw [if_neg z]
      exact (if_neg z).trans ((if_neg z).trans ((if_neg z).trans (if_neg z)))
  have hr : zR κ12 = zR τ := by rw [h12, h10, h8, h6, h2]; rfl
  have hn : zN κ12 = zN τ := by rw [h12, h10, h8, h6, h2]; rfl
  have hi : zI κ12 = fun g b => if g = 513 ∧ b = ow5 τ p 513 then S + 1 else zI τ g b := by rw [h12, h10, h8, h6, h2, o13]; rfl
  have b6 : bd5 (ai5 τ p) 506 = 11 * S.toNatClampNeg := by rw [bdr_5]; exact congrArg (fun z => 11 * Int32.toNatClampNeg z) eS
  have d6 : bd5 (fun g => if g = 513 then S + 1 else (ab5 τ p).1 g) 506 = 11 * (S.toNatClampNeg + 1) := by rw [bdr_5, if_pos rfl, hL]
  have d7 : bd5 (fun g => if g = 513 then S + 1 else (ab5 τ p).1 g) 507 = bd5 (ai5 τ p) 507 := bu_o5 (by decide)
  have d8 : bd5 (fun g => if g = 513 then S + 1 else (ab5 τ p).1 g) 508 = bd5 (ai5 τ p) 508 := bu_a5 (by decide)
  have d1 : bd5 (fun g => if g = 513 then S + 1 else (ab5 τ p).1 g) 1015 = bd5 (ai5 τ p) 1015 := bu_w5 (by decide)
  have e := pu_5 (cf := 513) (κ5 := κ12) (x := S + 1) (V := fun g j => nr5 (zI τ coLength c) (j - 11 * S.toNatClampNeg)) W T (by decide) hi hr hn (fun g hg => by
    rw [hA, if_neg (nR g (fx_al5 g hg) (fun z => fx_gr5 g hg (Or.inr (Or.inl z))))]) (fun g hg j => by
    rcases hg with rfl | rfl | rfl | rfl
    · rw [hA, if_neg (nR 1015 (by decide) (by decide)), d1]
      exact ⟨fun hj => ⟨hj, rfl⟩, fun a b => absurd b a⟩
    · rw [hA, o06, if_pos rfl, b6, d6]
      refine ⟨fun hj => ⟨by omega, ?_⟩, fun a b => ?_⟩
      · show (if j = i4 then _ else if j = i3 then _ else if j = i1 then _ else if _ then _ else _) = _
        rw [if_neg (by omega), if_neg (by omega), if_neg (by omega), if_neg (by omega)]
      · show (if j = i4 then _ else if j = i3 then _ else if j = i1 then _ else if _ then _ else _) = nr5 _ _
        unfold nr5
        by_cases y4 : j = i4
        · rw [if_pos y4, if_neg (by omega), if_neg (by omega), if_pos (by omega)]
        · rw [if_neg y4]
          by_cases y3 : j = i3
          · rw [if_pos y3, if_neg (by omega), if_pos (by omega)]
          · rw [if_neg y3]
            by_cases y1 : j = i1
            · rw [if_pos y1, if_pos (by omega)]
            · rw [if_neg y1, if_pos (by omega), if_neg (by omega), if_neg (by omega), if_neg (by omega)]
    · rw [hA, if_neg (nR 507 (by decide) (by decide)), d7]
      exact ⟨fun hj => ⟨hj, rfl⟩, fun a b => absurd b a⟩
    · rw [hA, if_neg (nR 508 (by decide) (by decide)), d8]
      exact ⟨fun hj => ⟨hj, rfl⟩, fun a b => absurd b a⟩)
  rw [e]
  unfold f5_Co_addStatement
  rw [eS, eN]
  refine congrArg Sum.inl (congrArg (fun z => (z, S)) (congrArg (Prod.mk _) (congrArg (fun z => (z, (ab5 τ p).2.2)) ?_)))
  funext g j
  show (if g = 506 ∧ 11 * S.toNatClampNeg ≤ j ∧ j < 11 * S.toNatClampNeg + 11 then nr5 (zI τ coLength c) (j - 11 * S.toNatClampNeg) else (ab5 τ p).2.1 g j) = if _ ∧ _ ∧ _ then nr5 (zI τ coLength c) (j - 11 * S.toNatClampNeg) else (ab5 τ p).2.1 g j
  by_cases z : g = 506
  · subst z
    rw [d6, b6]
    by_cases y : 11 * S.toNatClampNeg ≤ j ∧ j < 11 * S.toNatClampNeg + 11
    · rw [if_pos ⟨rfl, y⟩, if_pos ⟨Or.inr (Or.inl rfl), by omega, by omega⟩]
    · rw [if_neg (fun q => y q.2), if_neg (fun q => by have := q.2; omega)]
  · rw [if_neg (fun q => z q.1), if_neg (fun q => by
      rcases q with ⟨y | y | y | y, q1, q2⟩
      · subst y; rw [d1] at q2; exact q1 q2
      · exact z y
      · subst y; rw [d7] at q2; exact q1 q2
      · subst y; rw [d8] at q2; exact q1 q2)]
/-- one more waits -/
theorem ho_5 {C : zC} {n0 p : Nat} {τ κ1 κ3 : zS} {o : Int32} (W : zW C n0 τ) (T : zT τ p = 10) (h1 : κ1 = ua τ (zR τ paWaiting p) (zI τ paWaits p).toNatClampNeg o) (h3 : κ3 = ui κ1 paWaits p (zI κ1 paWaits p + 1)) (l0 : 0 ≤ (zI τ paWaits p).toInt) (l1 : (zI τ paWaits p).toInt < (20500 : Nat)) : f5_Pa_hold o (ab5 τ p) = .inl (ab5 κ3 p, ()) := by
  have nW : ∀ g, g ∈ al5 → g ≠ 1015 → zR τ g (ow5 τ p g) ≠ zR τ paWaiting p := fun g hg z => al_n5 W T (f := g) (g := 1015) hg (by decide) z
  have eL : (ab5 τ p).1 1016 = zI τ paWaits p := rfl
  have o15 : zR τ 1015 (ow5 τ p 1015) = zR τ paWaiting p := rfl
  have o16 : ow5 τ p 1016 = p := rfl
  have j1 : zI κ1 paWaits p = zI τ paWaits p := by rw [h1]; rfl
  rw [j1] at h3
  obtain ⟨L, hLL⟩ : ∃ L, L = zI τ paWaits p := ⟨_, rfl⟩
  have hL := inc_n5 l0 l1 (by decide)
  rw [← hLL] at h1 h3 l0 l1 hL eL
  have hA : ∀ b, zA κ3 b = if b = zR τ paWaiting p then upd (zA τ (zR τ paWaiting p)) L.toNatClampNeg o else zA τ b := fun b => by
    rw [h3, h1]
    rfl
  have hr : zR κ3 = zR τ := by rw [h3, h1]; rfl
  have hn : zN κ3 = zN τ := by rw [h3, h1]; rfl
  have hi : zI κ3 = fun g b => if g = 1016 ∧ b = ow5 τ p 1016 then L + 1 else zI τ g b := by rw [h3, h1, o16]; rfl
  have b5 : bd5 (ai5 τ p) 1015 = L.toNatClampNeg := by rw [bdw5]; exact congrArg Int32.toNatClampNeg eL
  have d5 : bd5 (fun g => if g = 1016 then L + 1 else (ab5 τ p).1 g) 1015 = L.toNatClampNeg + 1 := by rw [bdw5, if_pos rfl, hL]
  have d6 : bd5 (fun g => if g = 1016 then L + 1 else (ab5 τ p).1 g) 506 = bd5 (ai5 τ p) 506 := bu_r5 (by decide)
  have d7 : bd5 (fun g => if g = 1016 then L + 1 else (ab5 τ p).1 g) 507 = bd5 (ai5 τ p) 507 := bu_o5 (by decide)
  have d8 : bd5 (fun g => if g = 1016 then L + 1 else (ab5 τ p).1 g) 508 = bd5 (ai5 τ p) 508 := bu_a5 (by decide)
  have e := pu_5 (cf := 1016) (κ5 := κ3) (x := L + 1) (V := fun g _ => o) W T (by decide) hi hr hn (fun g hg => by
    rw [hA, if_neg (nW g (fx_al5 g hg) (fun z => fx_gr5 g hg (Or.inl z)))]) (fun g hg j => by
    rcases hg with rfl | rfl | rfl | rfl
    · rw [hA, o15, if_pos rfl, b5, d5, upd_5]
      exact ⟨fun hj => ⟨by omega, if_neg (by omega)⟩, fun a b => if_pos (by omega)⟩
    · rw [hA, if_neg (nW 506 (by decide) (by decide)), d6]
      exact ⟨fun hj => ⟨hj, rfl⟩, fun a b => absurd b a⟩
    · rw [hA, if_neg (nW 507 (by decide) (by decide)), d7]
      exact ⟨fun hj => ⟨hj, rfl⟩, fun a b => absurd b a⟩
    · rw [hA, if_neg (nW 508 (by decide) (by decide)), d8]
      exact ⟨fun hj => ⟨hj, rfl⟩, fun a b => absurd b a⟩)
  rw [e]
  unfold f5_Pa_hold
  rw [eL]
  refine congrArg Sum.inl (congrArg (fun z => (z, ())) (congrArg (Prod.mk _) (congrArg (fun z => (z, (ab5 τ p).2.2)) ?_)))
  funext g j
  show (if g = 1015 ∧ j = L.toNatClampNeg then o else (ab5 τ p).2.1 g j) = if _ ∧ _ ∧ _ then o else (ab5 τ p).2.1 g j
  by_cases z : g = 1015
  · subst z
    rw [d5, b5]
    by_cases y : j = L.toNatClampNeg
    · rw [if_pos ⟨rfl, y⟩, if_pos ⟨Or.inl rfl, by omega, by omega⟩]
    · rw [if_neg (fun q => y q.2), if_neg (fun q => by have := q.2; omega)]
  · rw [if_neg (fun q => z q.1), if_neg (fun q => by
      rcases q with ⟨y | y | y | y, q1, q2⟩
      · exact z y
      · subst y; rw [d6] at q2; exact q1 q2
      · subst y; rw [d7] at q2; exact q1 q2
      · subst y; rw [d8] at q2; exact q1 q2)]

end
section
set_option maxHeartbeats 1600000
theorem Co_column_q5 {C : zC} {n0 : Nat} {a0 : Nat} {a1 : Int32} {a2 : Int32} {κ : zS} {Q : Int32 → zS → Prop} (W : zW C n0 κ) (Ta0 : zT κ a0 = 5)  (hp : coI κ a0 ∧ 0 ≤ a2.toInt ∧ a2.toInt < 11) (h : ∀ (v : Int32), ((True) ∧ (∀ p, zT κ p = 10 → zR κ paCode p = a0 → v = cl5 a1 a2 (ab5 κ p))) → Q v κ) : zRun C 0 mCo_column [.ref a0, .int a1, .int a2] κ (oI Q noX) := by
  refine Co_column_run W Ta0 ?_
  replace W := W.lo (Nat.le_trans W.1.2.1 W.1.2.2) (Nat.le_refl (zn κ))
  unfold w_Co_column_0
  obtain ⟨H, p0, p1⟩ := hp
  obtain ⟨-, -, -, -, -, hs, hrw, -⟩ := H
  refine ⟨fun c1 => ?_, fun c1 => ?_⟩
  · skip
    refine h _ ?_
    · refine and_5 ?_ (fun o9 => fun p _ e => (if_pos c1).symm)  -- q1
      trivial
  · skip
    refine ⟨fun c2 => ?_, fun c2 => ?_⟩
    · skip
      refine h _ ?_
      · refine and_5 ?_ (fun o9 => fun p _ e => by subst e; exact ((if_neg c1).trans (if_pos c2)).symm)  -- q2
        trivial
    · skip
      refine ⟨?_, ?_⟩
      · rw [lti, t0i] at c1
        rw [lei] at c2
        rw [inb_iff, col_i (by omega) (by omega) p0 p1]
        omega
      refine h _ ?_
      · refine and_5 ?_ (fun o9 => fun p _ e => by subst e; exact ((if_neg c1).trans ((if_neg c2).trans (ab_G5 (Or.inr (Or.inl rfl)) (col_b5 c1 c2 hs.2 p0 p1)))).symm)  -- q4
        trivial

theorem Co_setColumn_q5 {C : zC} {n0 : Nat} {a0 : Nat} {a1 : Int32} {a2 : Int32} {a3 : Int32} {κ : zS} {Q : zS → Prop} (W : zW C n0 κ) (Ta0 : zT κ a0 = 5)  (hp : coI κ a0 ∧ 0 ≤ a2.toInt ∧ a2.toInt < 11) (h : ∀ (κ' : zS), ((zF (oneF coRows a0) κ κ' ∧ coI κ' a0 ∧ zI κ' = zI κ ∧ zR κ' = zR κ) ∧ (∀ p, zT κ p = 10 → zR κ paCode p = a0 → f5_Co_setColumn a1 a2 a3 (ab5 κ p) = .inl (ab5 κ' p, ()))) → Q κ') : zRun C 0 mCo_setColumn [.ref a0, .int a1, .int a2, .int a3] κ (oV Q noX) := by
  refine Co_setColumn_run W Ta0 ?_
  replace W := W.lo (Nat.le_trans W.1.2.1 W.1.2.2) (Nat.le_refl (zn κ))
  unfold w_Co_setColumn_0
  obtain ⟨H, p0, p1⟩ := hp
  have H0 := H
  obtain ⟨-, -, -, -, -, hs, hrw, -⟩ := H
  refine ⟨fun c1 => ?_, fun c1 => ?_⟩
  · skip
    refine h _ ?_
    · refine and_5 ?_ (fun o9 => fun p _ e => if_pos c1)  -- q1
      exact ⟨zF.rf, H0, rfl, rfl⟩
  · skip
    refine ⟨fun c2 => ?_, fun c2 => ?_⟩
    · skip
      refine h _ ?_
      · refine and_5 ?_ (fun o9 => fun p _ e => by subst e; exact (if_neg c1).trans (if_pos c2))  -- q2
        exact ⟨zF.rf, H0, rfl, rfl⟩
    · skip
      refine ⟨?_, ?_⟩
      · rw [lti, t0i] at c1
        rw [lei] at c2
        rw [inb_iff, col_i (by omega) (by omega) p0 p1]
        omega
      intro κ_3 hκ_3
      intro W4
      refine h _ ?_
      · refine and_5 ?_ (fun o9 => fun p Tp e => by subst e; exact (if_neg c1).trans ((if_neg c2).trans (ab_ug5 (f := 506) W Tp hκ_3 (Or.inr (Or.inl rfl)) (col_b5 c1 c2 hs.2 p0 p1))))  -- q4
        rw [hκ_3]
        refine ⟨zF_ua (by rw [coRf_o W Ta0 (by decide)]; exact ⟨rfl, rfl⟩), coI_g H0 (fun _ _ => rfl) (fun _ _ => rfl) (fun _ _ => rfl) (fun f hf => if_neg ?_), rfl, rfl⟩
        rcases hf with rfl | rfl
        · exact coRf_n W Ta0 (by decide) (by decide) (by decide)
        · exact coRf_n W Ta0 (by decide) (by decide) (by decide)

theorem Co_emit_q5 {C : zC} {n0 : Nat} {a0 : Nat} {a1 : Int32} {a2 : Int32} {κ : zS} {Q : zS → Prop} (W : zW C n0 κ) (Ta0 : zT κ a0 = 5)  (hp : coI κ a0 ∧ (zI κ coLength a0).toInt < 20500) (h : ∀ (κ' : zS), ((zF (objF a0) κ κ' ∧ coI κ' a0 ∧ zI κ' coLength a0 = zI κ coLength a0 + 1 ∧ (∀ f, f ≠ coLength → zI κ' f a0 = zI κ f a0)) ∧ (∀ p, zT κ p = 10 → zR κ paCode p = a0 → f5_Co_emit a1 a2 (ab5 κ p) = .inl (ab5 κ' p, ()))) → Q κ') : zRun C 2 mCo_emit [.ref a0, .int a1, .int a2] κ (oV Q noX) := by
  refine Co_emit_run W Ta0 ?_
  replace W := W.lo (Nat.le_trans W.1.2.1 W.1.2.2) (Nat.le_refl (zn κ))
  unfold w_Co_emit_0
  obtain ⟨H, p0⟩ := hp
  have H0 := H
  obtain ⟨h1, hv, ha, hc, hf, hs, hrw, ho, hb⟩ := H
  have hj46 : ∀ (l0 : Nat) (l1 : Int32) (l2 : Int32) (τ : zS), zW C (zn κ) τ → zT τ l0 = 5 → ((a0 = l0 ∧ a1 = l1 ∧ a2 = l2 ∧ zF (objF a0) κ τ ∧ zI τ = zI κ ∧ coI τ a0 ∧ (zI κ coLength a0).toInt < (zN τ (zR τ coOps a0))) ∧ (∀ p, zT κ p = 10 → zR κ paCode p = a0 → ab5 τ p = ab5 κ p ∧ zT τ p = 10 ∧ zR τ paCode p = a0)) → w_Co_emit_46 C (zn κ) Q  l0 l1 l2 τ := by
    rintro _ _ _ τ46 W46 T46_0 ⟨⟨rfl, rfl, rfl, j46⟩, hE⟩
    unfold w_Co_emit_46
    obtain ⟨F, jI, J, jl⟩ := j46
    have J0 := J
    obtain ⟨g1, gv, ga, gc, gf, gs, grw, go, gb⟩ := J
    refine ⟨?_, ?_⟩
    · rw [inb_iff, jI]; omega  -- b1
    intro κ_1 hκ_1
    intro W2
    refine ⟨?_, ?_⟩
    · rw [hκ_1, inb_iff]
      show 0 ≤ (zI τ46 coLength a0).toInt ∧ (zI τ46 coLength a0).toInt < ((zN τ46 (zR τ46 coArgs a0) : Nat) : Int)
      rw [jI]; omega
    intro κ_3 hκ_3
    intro W4
    intro κ_5 hκ_5
    intro W6
    refine h _ ?_
    · refine and_5 ?_ (fun o9 => ?_)  -- q3
      · have f1 : zF (objF a0) τ46 κ_1 := by rw [hκ_1]; exact zF_ua (by rw [coRf_o W46 T46_0 (by decide)])
        have T1 := f1.t T46_0 (by decide)
        have f3 : zF (objF a0) κ_1 κ_3 := by rw [hκ_3]; exact zF_ua (by rw [coRf_o W2 T1 (by decide)])
        have f5 : zF (objF a0) κ_3 κ_5 := by rw [hκ_5]; exact zF_ui rfl
        have i3 : zI κ_3 = zI κ := by rw [hκ_3, hκ_1]; exact jI
        have r5 : zR κ_5 = zR τ46 := by rw [hκ_5, hκ_3, hκ_1]; rfl
        have n5 : zN κ_5 = zN τ46 := by rw [hκ_5, hκ_3, hκ_1]; rfl
        have is : zI κ_5 coLength a0 = zI κ coLength a0 + 1 := by
          rw [hκ_5]
          refine (if_pos ⟨rfl, rfl⟩).trans ?_
          rw [i3]
        have io : ∀ f, f ≠ coLength → zI κ_5 f a0 = zI κ f a0 := fun f hf => by
          rw [hκ_5]
          exact (if_neg (fun z => hf z.1)).trans (congrFun (congrFun i3 f) a0)
        have ts : (zI κ_5 coLength a0).toInt = (zI κ coLength a0).toInt + 1 := by rw [is, add_i (by rw [t1i]; omega) (by rw [t1i]; omega), t1i]
        have aa : ∀ f, f = coArrayBases ∨ f = coArraySizes → zA κ_5 (zR τ46 f a0) = zA τ46 (zR τ46 f a0) := fun f hf => by
          have m : f ∈ coRf ∧ f ≠ coOps ∧ f ≠ coArgs := by rcases hf with rfl | rfl <;> decide
          have e1 : zA κ_1 (zR τ46 f a0) = zA τ46 (zR τ46 f a0) := by rw [hκ_1]; exact if_neg (coRf_n W46 T46_0 m.1 (by decide) m.2.1)
          have e3 : zA κ_3 (zR τ46 f a0) = zA κ_1 (zR τ46 f a0) := by
            rw [hκ_3, show zR κ_1 = zR τ46 from by rw [hκ_1]; rfl]
            exact if_neg (coRf_n W46 T46_0 m.1 (by decide) m.2.2)
          rw [show zA κ_5 = zA κ_3 from by rw [hκ_5]; rfl, e3, e1]
        refine ⟨((F.tr f1).tr f3).tr f5, ?_, is, io⟩
        rw [jI] at gv ga gc gf gs grw
        unfold coI
        rw [r5, n5, aa coArrayBases (Or.inl rfl), aa coArraySizes (Or.inr rfl), ts, io coVars (by decide), io coArrays (by decide), io coCells (by decide), io coFunctions (by decide), io coStatements (by decide)]
        exact ⟨g1, gv, ga, gc, gf, gs, grw, ⟨by omega, by omega, go.2.2⟩, gb⟩
      · intro p Tp e
        obtain ⟨g, t, r⟩ := hE p Tp e
        subst r
        rw [← g]
        exact em_5 W46 t hκ_1 hκ_3 hκ_5 (by rw [jI]; exact ho.1) (by rw [jI]; omega)
  have oN := W.n (ty_coOps W Ta0)
  refine ⟨fun c7 => ?_, fun c7 => ?_⟩
  · skip
    refine hj46 _ _ _ _ W ?_ ?_
    · exact Ta0  -- t4
    · refine and_5 ?_ (fun o9 => fun p Tp e => ⟨rfl, Tp, e⟩)  -- k5
      rw [lti, ofn_i oN] at c7
      exact ⟨rfl, rfl, rfl, zF.rf, rfl, H0, c7⟩
  · skip
    intro T8
    have c8 : (zI κ coLength a0).toInt = zN κ (zR κ coOps a0) := by rw [lti, ofn_i oN] at c7; omega
    have e2 : (zI κ coLength a0 * 2).toInt = (zI κ coLength a0).toInt * 2 := by rw [mul_i (by rw [t2i]; omega) (by rw [t2i]; omega), t2i]
    have kn := cnk (x := zI κ coLength a0 * 2) (by omega)
    refine Ar_copyOf_c W T8  ?_ (fun r9 κ_10 q11 => ?_)
    · exact ⟨⟨by rw [lei, t0i]; omega, by omega⟩, fun e => by
        have e9 := congrArg Int32.toInt e
        rw [ofn_i oN] at e9
        omega⟩
    intro W12
    intro M13
    intro T14
    refine ⟨?_, ?_⟩
    · rw [q11.1]; exact q11.2.2.1  -- b7
    intro κ_15 hκ_15
    intro W16
    intro T17
    have h9 : κ_15 = uo κ_10 coOps a0 (zn κ) := by rw [hκ_15, q11.1]
    obtain ⟨F9, u1, u2, u3, u4, u5, u6, -⟩ := gr_f (f := coOps) W (by decide +kernel) (by decide) Ta0 (by decide) q11.2 h9 (by omega) (by omega)
    have T15 := F9.t Ta0 (by decide)
    have aN := W16.n (ty_coArgs W16 T15)
    have ra : zR κ_15 coArgs a0 = zR κ coArgs a0 := u2 coArgs a0 (fun z => absurd z.1 (by decide))
    have na9 : zN κ_15 (zR κ_15 coArgs a0) = zN κ (zR κ coOps a0) := by rw [ra, (u5 _ _ (coRf_t W Ta0 (by decide))).1]; exact ho.2.2.1
    have l9 := cnk ho.1
    have g9 : ∀ p, zT κ p = 10 → zR κ paCode p = a0 → ab5 κ_15 p = ab5 κ p ∧ zT κ_15 p = 10 ∧ zR κ_15 paCode p = a0 := fun p Tp e => by
      subst e
      exact ⟨gwR_5 (f := 507) W Tp (Or.inr (Or.inr (Or.inl rfl))) u1 u2 u5 (fun i hi => by
        have hi' : i < (zI κ coLength (zR κ paCode p)).toNatClampNeg := hi
        exact (congrFun (congrArg (zA κ_15) u3) i).trans (u6 i (by omega) (by omega))), F9.t Tp (by decide), u2 _ _ (fun z => absurd z.1 (by decide))⟩
    rw [u1]
    refine Ar_copyOf_c W16 T17  ?_ (fun r18 κ_19 q20 => ?_)
    · exact ⟨⟨by rw [lei, t0i]; omega, by omega⟩, fun e => by
        have e9 := congrArg Int32.toInt e
        rw [ofn_i aN, na9] at e9
        omega⟩
    intro W21
    intro M22
    intro T23
    refine ⟨?_, ?_⟩
    · rw [q20.1]; exact q20.2.2.1  -- b9
    intro κ_24 hκ_24
    intro W25
    have h24 : κ_24 = uo κ_19 coArgs a0 (zn κ_15) := by rw [hκ_24, q20.1]
    obtain ⟨G9, w1, w2, w3, w4, w5, w6, -⟩ := gr_f (f := coArgs) W16 (by decide +kernel) (by decide) T15 (by decide) q20.2 h24 (by omega) (by omega)
    have FF : zF (objF a0) κ κ_24 := (F9.mono (fun _ _ z => z.2)).tr (G9.mono (fun _ _ z => z.2))
    refine hj46 _ _ _ _ W25 ?_ ?_
    · exact FF.t Ta0 (by decide)  -- t10
    · refine and_5 ?_ (fun o9 => ?_)  -- k11
      · have rr : ∀ f, f ∈ coRf → f ≠ coOps → f ≠ coArgs → zR κ_24 f a0 = zR κ f a0 := fun f _ z1 z2 => (w2 f a0 (fun z => z2 z.1)).trans (u2 f a0 (fun z => z1 z.1))
        have nn : ∀ f, f ∈ coRf → zN κ_24 (zR κ f a0) = zN κ (zR κ f a0) := fun f hf => FF.l (coRf_t W Ta0 hf)
        have ro : zR κ_24 coOps a0 = zn κ := (w2 coOps a0 (fun z => absurd z.1 (by decide))).trans u3
        have t0 : zT κ_15 (zn κ) = 20 := by rw [← u3]; exact coRf_t W16 T15 (by decide)
        have no : zN κ_24 (zn κ) = (zI κ coLength a0 * 2).toNatClampNeg := ((w5 _ _ t0).1).trans u4
        have aa : ∀ f, f = coArrayBases ∨ f = coArraySizes → zA κ_24 (zR κ f a0) = zA κ (zR κ f a0) := fun f hf => by
          have m : f ∈ coRf := by rcases hf with rfl | rfl <;> decide
          have t1 := coRf_t W Ta0 m
          exact ((w5 _ _ (F9.t t1 (by decide))).2).trans (u5 _ _ t1).2
        have ii : zI κ_24 = zI κ := w1.trans u1
        refine ⟨rfl, rfl, rfl, FF, ii, ?_, ?_⟩
        · unfold coI
          rw [ii, rr coVarStarts (by decide) (by decide) (by decide), rr coArrayBases (by decide) (by decide) (by decide), rr coArraySizes (by decide) (by decide) (by decide), rr coFirstStatements (by decide) (by decide) (by decide), rr coNameCounts (by decide) (by decide) (by decide), rr coOwnCounts (by decide) (by decide) (by decide), rr coRows (by decide) (by decide) (by decide), ro, w3]
          rw [nn coVarStarts (by decide), nn coArrayBases (by decide), nn coArraySizes (by decide), nn coFirstStatements (by decide), nn coNameCounts (by decide), nn coOwnCounts (by decide), nn coRows (by decide), no, w4, aa coArrayBases (Or.inl rfl), aa coArraySizes (Or.inr rfl)]
          exact ⟨h1, hv, ha, hc, hf, hs, hrw, ⟨ho.1, by omega, rfl, by omega, by omega⟩, hb⟩
        · rw [ro, no]; omega
      · intro p Tp e
        obtain ⟨g, t, r⟩ := g9 p Tp e
        subst r
        refine ⟨(gwR_5 (f := 508) W16 t (Or.inr (Or.inr (Or.inr rfl))) w1 w2 w5 (fun i hi => ?_)).trans g, G9.t t (by decide), w2 _ _ (fun z => absurd z.1 (by decide))⟩
        have hi' : i < (zI κ_15 coLength (zR κ_15 paCode p)).toNatClampNeg := hi
        rw [u1] at hi'
        exact (congrFun (congrArg (zA κ_24) w3) i).trans (w6 i (by omega) (by omega))

theorem Co_addStatement_q5 {C : zC} {n0 : Nat} {a0 : Nat} {κ : zS} {Q : Int32 → zS → Prop} (W : zW C n0 κ) (Ta0 : zT κ a0 = 5)  (hp : coI κ a0 ∧ (zI κ coStatements a0).toInt < 150) (h : ∀ (v : Int32) (κ' : zS), ((zF (objF a0) κ κ' ∧ coI κ' a0 ∧ v = zI κ coStatements a0 ∧ zI κ' coStatements a0 = zI κ coStatements a0 + 1 ∧ (∀ f, f ≠ coStatements → zI κ' f a0 = zI κ f a0)) ∧ (∀ p, zT κ p = 10 → zR κ paCode p = a0 → f5_Co_addStatement (ab5 κ p) = .inl (ab5 κ' p, v))) → Q v κ') : zRun C 2 mCo_addStatement [.ref a0] κ (oI Q noX) := by
  refine Co_addStatement_run W Ta0 ?_
  replace W := W.lo (Nat.le_trans W.1.2.1 W.1.2.2) (Nat.le_refl (zn κ))
  unfold w_Co_addStatement_0
  obtain ⟨H, p0⟩ := hp
  have H0 := H
  obtain ⟨h1, hv, ha, hc, hf, hs, hrw, ho, hb⟩ := H
  have e11 : (11 : Int32).toInt = 11 := rfl
  have e3 : (3 : Int32).toInt = 3 := rfl
  have e4 : (4 : Int32).toInt = 4 := rfl
  have hj37 : ∀ (l0 : Nat) (l1 : Int32) (τ : zS), zW C (zn κ) τ → zT τ l0 = 5 → ((a0 = l0 ∧ zF (objF a0) κ τ ∧ zI τ = zI κ ∧ (∀ f, f ∈ coRf → f ≠ coRows → zR τ f a0 = zR κ f a0) ∧ l1.toInt = 11 * (zI κ coStatements a0).toInt ∧ (l1.toInt + 11 ≤ (zN τ (zR τ coRows a0)) ∧ 88 ≤ (zN τ (zR τ coRows a0)) ∧ (zN τ (zR τ coRows a0)) ≤ 3322) ∧ (∀ f, f = coArrayBases ∨ f = coArraySizes → zA τ (zR κ f a0) = zA κ (zR κ f a0))) ∧ (∀ p, zT κ p = 10 → zR κ paCode p = a0 → ab5 τ p = ab5 κ p ∧ zT τ p = 10 ∧ zR τ paCode p = a0)) → w_Co_addStatement_37 C (zn κ) Q  l0 l1 τ := by
    rintro _ y37_1 τ37 W37 T37_0 ⟨⟨rfl, j37⟩, hE⟩
    unfold w_Co_addStatement_37
    intro T1
    obtain ⟨F, jI, jR, jl, jp, jA⟩ := j37
    have ea : (y37_1 + 11).toInt = y37_1.toInt + 11 := by rw [add_i (by rw [e11]; omega) (by rw [e11]; omega), e11]
    have k1 := cnk (x := y37_1) (by omega)
    have k11 := cnk (x := y37_1 + 11) (by omega)
    refine Ar_fill4_c W37 T1  ?_ (fun κ_2 q3 => ?_)
    · exact ⟨by rw [lei, t0i]; omega, by rw [lei, ea]; omega, by omega⟩  -- p1
    intro W4
    intro M5
    refine ⟨?_, ?_⟩
    · rw [q3, inb_iff, add_i (by rw [t1i]; omega) (by rw [t1i]; omega), t1i]
      show _ ∧ _ < ((zN τ37 (zR τ37 coRows a0) : Nat) : Int)
      omega
    intro κ_6 hκ_6
    intro W7
    refine ⟨?_, ?_⟩
    · rw [hκ_6, q3, inb_iff, add_i (by rw [e3]; omega) (by rw [e3]; omega), e3]
      show _ ∧ _ < ((zN τ37 (zR τ37 coRows a0) : Nat) : Int)
      omega
    intro κ_8 hκ_8
    intro W9
    refine ⟨?_, ?_⟩
    · rw [hκ_8, hκ_6, q3, inb_iff, add_i (by rw [e4]; omega) (by rw [e4]; omega), e4]
      show _ ∧ _ < ((zN τ37 (zR τ37 coRows a0) : Nat) : Int)
      omega
    intro κ_10 hκ_10
    intro W11
    intro κ_12 hκ_12
    intro W13
    refine h _ _ ?_
    · refine and_5 ?_ (fun o9 => ?_)  -- q5
      · have f2 : zF (oneF coRows a0) τ37 κ_2 := by rw [q3]; exact zF_uf (by rw [coRf_o W37 T37_0 (by decide)]; exact ⟨rfl, rfl⟩)
        have T2 := f2.t T37_0 (by decide)
        have f6 : zF (oneF coRows a0) κ_2 κ_6 := by rw [hκ_6]; exact zF_ua (by rw [coRf_o W4 T2 (by decide)]; exact ⟨rfl, rfl⟩)
        have T6 := f6.t T2 (by decide)
        have f8 : zF (oneF coRows a0) κ_6 κ_8 := by rw [hκ_8]; exact zF_ua (by rw [coRf_o W7 T6 (by decide)]; exact ⟨rfl, rfl⟩)
        have T8 := f8.t T6 (by decide)
        have f10 : zF (oneF coRows a0) κ_8 κ_10 := by rw [hκ_10]; exact zF_ua (by rw [coRf_o W9 T8 (by decide)]; exact ⟨rfl, rfl⟩)
        have G := ((f2.tr f6).tr f8).tr f10
        have f12 : zF (objF a0) κ_10 κ_12 := by rw [hκ_12]; exact zF_ui rfl
        have FF : zF (objF a0) κ κ_12 := (F.tr (G.mono (fun _ _ z => z.2))).tr f12
        have i10 : zI κ_10 = zI κ := by rw [hκ_10, hκ_8, hκ_6, q3]; exact jI
        have r12 : zR κ_12 = zR τ37 := by rw [hκ_12, hκ_10, hκ_8, hκ_6, q3]; rfl
        have n12 : zN κ_12 = zN τ37 := by rw [hκ_12, hκ_10, hκ_8, hκ_6, q3]; rfl
        have a12 : zA κ_12 = zA κ_10 := by rw [hκ_12]; rfl
        have is : zI κ_12 coStatements a0 = zI κ coStatements a0 + 1 := by
          rw [hκ_12]
          refine (if_pos ⟨rfl, rfl⟩).trans ?_
          rw [i10]
        have io : ∀ f, f ≠ coStatements → zI κ_12 f a0 = zI κ f a0 := fun f hf => by
          rw [hκ_12]
          exact (if_neg (fun z => hf z.1)).trans (congrFun (congrFun i10 f) a0)
        have ts : (zI κ_12 coStatements a0).toInt = (zI κ coStatements a0).toInt + 1 := by rw [is, add_i (by rw [t1i]; omega) (by rw [t1i]; omega), t1i]
        have aa : ∀ f, f = coArrayBases ∨ f = coArraySizes → zA κ_12 (zR τ37 f a0) = zA κ (zR κ f a0) := fun f hf => by
          have m : f ∈ coRf ∧ f ≠ coRows := by rcases hf with rfl | rfl <;> decide
          have g := (G.2.1 (zR τ37 f a0) (by rw [coRf_t W37 T37_0 m.1]; decide) (by rw [coRf_o W37 T37_0 m.1]; exact fun z => m.2 z.1)).1
          rw [a12, g, jR f m.1 m.2]
          exact jA f hf
        have nn : ∀ f, f ∈ coRf → zN τ37 (zR κ f a0) = zN κ (zR κ f a0) := fun f hf => F.l (coRf_t W Ta0 hf)
        refine ⟨FF, ?_, by rw [is]; exact pm_1, is, io⟩
        unfold coI
        rw [r12, n12, aa coArrayBases (Or.inl rfl), aa coArraySizes (Or.inr rfl), jR coVarStarts (by decide) (by decide), jR coArrayBases (by decide) (by decide), jR coArraySizes (by decide) (by decide), jR coFirstStatements (by decide) (by decide), jR coNameCounts (by decide) (by decide), jR coOwnCounts (by decide) (by decide), jR coOps (by decide) (by decide), jR coArgs (by decide) (by decide)]
        rw [nn coVarStarts (by decide), nn coArrayBases (by decide), nn coArraySizes (by decide), nn coFirstStatements (by decide), nn coNameCounts (by decide), nn coOwnCounts (by decide), nn coOps (by decide), nn coArgs (by decide)]
        rw [ts, io coVars (by decide), io coArrays (by decide), io coCells (by decide), io coFunctions (by decide), io coLength (by decide)]
        exact ⟨h1, hv, ha, hc, hf, ⟨by omega, by omega⟩, ⟨by omega, jp.2⟩, ho, hb⟩
      · intro p Tp e
        obtain ⟨g, t, r⟩ := hE p Tp e
        subst r
        have kk := cnk (x := zI τ37 coStatements (zR τ37 paCode p)) (by rw [jI]; exact hs.1)
        have i1 : (y37_1 + 1).toNatClampNeg = 11 * (zI τ37 coStatements (zR τ37 paCode p)).toNatClampNeg + 1 := by
          have a := add_i (x := y37_1) (y := 1) (by rw [t1i]; omega) (by rw [t1i]; omega)
          rw [t1i] at a
          have b := cnk (x := y37_1 + 1) (by omega)
          rw [jI] at kk ⊢
          omega
        have i3 : (y37_1 + 3).toNatClampNeg = 11 * (zI τ37 coStatements (zR τ37 paCode p)).toNatClampNeg + 3 := by
          have a := add_i (x := y37_1) (y := 3) (by rw [e3]; omega) (by rw [e3]; omega)
          rw [e3] at a
          have b := cnk (x := y37_1 + 3) (by omega)
          rw [jI] at kk ⊢
          omega
        have i4 : (y37_1 + 4).toNatClampNeg = 11 * (zI τ37 coStatements (zR τ37 paCode p)).toNatClampNeg + 4 := by
          have a := add_i (x := y37_1) (y := 4) (by rw [e4]; omega) (by rw [e4]; omega)
          rw [e4] at a
          have b := cnk (x := y37_1 + 4) (by omega)
          rw [jI] at kk ⊢
          omega
        have q3' : κ_2 = uff τ37 (zR τ37 coRows (zR τ37 paCode p)) (11 * (zI τ37 coStatements (zR τ37 paCode p)).toNatClampNeg) (11 * (zI τ37 coStatements (zR τ37 paCode p)).toNatClampNeg + 11) (-1) := by
          have a1 : y37_1.toNatClampNeg = 11 * (zI τ37 coStatements (zR τ37 paCode p)).toNatClampNeg := by rw [jI] at kk ⊢; omega
          have a2 : (y37_1 + 11).toNatClampNeg = 11 * (zI τ37 coStatements (zR τ37 paCode p)).toNatClampNeg + 11 := by rw [jI] at kk ⊢; omega
          rw [q3, a1, a2]
        have z := sm_5 W37 t q3' hκ_6 hκ_8 hκ_10 hκ_12 i1 i3 i4 (by rw [jI]; exact hs.1) (by rw [jI]; omega)
        rw [← g, z, o9.2.2.1, jI]
  intro x14 hx14
  have ex : x14.toInt = 11 * (zI κ coStatements a0).toInt := by rw [hx14, mul_i (by rw [e11]; omega) (by rw [e11]; omega), e11]; omega
  have ea : (x14 + 11).toInt = x14.toInt + 11 := by rw [add_i (by rw [e11]; omega) (by rw [e11]; omega), e11]
  have rN := W.n (ty_coRows W Ta0)
  refine ⟨fun c15 => ?_, fun c15 => ?_⟩
  · skip
    refine hj37 _ _ _ W ?_ ?_
    · exact Ta0  -- t6
    · refine and_5 ?_ (fun o9 => fun p Tp e => ⟨rfl, Tp, e⟩)  -- k7
      rw [lei, ea, ofn_i rN] at c15
      exact ⟨rfl, zF.rf, rfl, fun _ _ _ => rfl, ex, ⟨c15, hrw.2⟩, fun _ _ => rfl⟩
  · skip
    intro T16
    have c16 : (zN κ (zR κ coRows a0) : Int) < x14.toInt + 11 := by rw [lei, ea, ofn_i rN] at c15; omega
    have e2 : ((x14 + 11) * 2).toInt = (x14.toInt + 11) * 2 := by rw [mul_i (by rw [ea, t2i]; omega) (by rw [ea, t2i]; omega), ea, t2i]
    have kn := cnk (x := (x14 + 11) * 2) (by omega)
    refine Ar_copyOf_c W T16  ?_ (fun r17 κ_18 q19 => ?_)
    · exact ⟨⟨by rw [lei, t0i]; omega, by omega⟩, fun e => by
        have e9 := congrArg Int32.toInt e
        rw [ofn_i rN] at e9
        omega⟩
    intro W20
    intro M21
    intro T22
    refine ⟨?_, ?_⟩
    · rw [q19.1]; exact q19.2.2.1  -- b9
    intro κ_23 hκ_23
    intro W24
    have h9 : κ_23 = uo κ_18 coRows a0 (zn κ) := by rw [hκ_23, q19.1]
    obtain ⟨F9, g1, g2, g3, g4, g5, g6, -⟩ := gr_f (f := coRows) W (by decide +kernel) (by decide) Ta0 (by decide) q19.2 h9 (by omega) (by omega)
    refine hj37 _ _ _ W24 ?_ ?_
    · exact F9.t Ta0 (by decide)  -- t10
    · refine and_5 ?_ (fun o9 => ?_)  -- k11
      · refine ⟨rfl, F9.mono (fun _ _ z => z.2), g1, fun f _ hf => g2 f a0 (fun z => hf z.1), ex, ?_, fun f hf => ?_⟩
        · rw [g3, g4]; omega
        · exact (g5 _ _ (coRf_t W Ta0 (by rcases hf with rfl | rfl <;> decide))).2
      · intro p Tp e
        subst e
        have l9 := cnk (x := zI κ coStatements (zR κ paCode p)) hs.1
        refine ⟨gwR_5 (f := 506) W Tp (Or.inr (Or.inl rfl)) g1 g2 g5 (fun i hi => ?_), F9.t Tp (by decide), g2 _ _ (fun z => absurd z.1 (by decide))⟩
        have hi' : i < 11 * (zI κ coStatements (zR κ paCode p)).toNatClampNeg := hi
        exact (congrFun (congrArg (zA κ_23) g3) i).trans (g6 i (by omega) (by omega))

theorem Pa_hold_q5 {C : zC} {n0 : Nat} {a0 : Nat} {a1 : Int32} {κ : zS} {Q : zS → Prop} (W : zW C n0 κ) (Ta0 : zT κ a0 = 10)  (hp : paI κ a0 ∧ (zI κ paWaits a0).toInt ≤ 20490) (h : ∀ (κ' : zS), ((paN κ κ' a0 ∧ zI κ' paWaits a0 = zI κ paWaits a0 + 1) ∧ (f5_Pa_hold a1 (ab5 κ a0) = .inl (ab5 κ' a0, ()))) → Q κ') : zRun C 2 mPa_hold [.ref a0, .int a1] κ (oV Q noX) := by
  refine Pa_hold_run W Ta0 ?_
  replace W := W.lo (Nat.le_trans W.1.2.1 W.1.2.2) (Nat.le_refl (zn κ))
  unfold w_Pa_hold_0
  have L := hp.1.2.2.1
  have D := hp.1.2.2.2
  have w0 := D.2.2.1
  have wl := D.2.2.2
  have oN := W.n (ty_paWaiting W Ta0)
  have e1 : (zI κ paWaits a0 + 1).toInt = (zI κ paWaits a0).toInt + 1 := by rw [add_i (by rw [t1i]; omega) (by rw [t1i]; omega), t1i]
  have hj29 : ∀ (l0 : Nat) (l1 : Int32) (τ : zS), zW C (zn κ) τ → zT τ l0 = 10 → ((a0 = l0 ∧ a1 = l1 ∧ zF (objF a0) κ τ ∧ zI τ = zI κ ∧ (∀ f, f ≠ paWaiting → zR τ f a0 = zR κ f a0) ∧ (zI κ paWaits a0).toInt < (zN τ (zR τ paWaiting a0)) ∧ 16 ≤ (zN τ (zR τ paWaiting a0)) ∧ (zN τ (zR τ paWaiting a0)) ≤ 41000) ∧ ab5 τ a0 = ab5 κ a0) → w_Pa_hold_29 C (zn κ) Q  l0 l1 τ := by
    rintro _ _ τ29 W29 T29_0 ⟨⟨rfl, rfl, j29⟩, hE⟩
    unfold w_Pa_hold_29
    refine ⟨?_, ?_⟩
    · rw [j29.2.1, inb_iff]
      have := j29.2.2.2.1
      omega
    intro κ_1 hκ_1
    intro W2
    intro κ_3 hκ_3
    intro W4
    refine h _ ?_
    · refine and_5 ?_ (fun o9 => ?_)  -- q2
      · obtain ⟨F, jI, jR, j1, j2, j3⟩ := j29
        have f1 := pa_ua W29 T29_0 (show zr paWaiting = some 20 by decide +kernel) (by decide) hκ_1
        have Z : zF (objF a0) κ κ_3 := (F.tr f1.1).tr (by rw [hκ_3]; exact zF_ui rfl)
        have r : zR κ_3 = zR τ29 := by rw [hκ_3]; exact f1.2.1
        have n : zN κ_3 = zN τ29 := by rw [hκ_3]; exact f1.2.2.1
        have o : zI κ_3 paWaits a0 = zI κ paWaits a0 + 1 := by
          rw [hκ_3]
          refine (if_pos ⟨rfl, rfl⟩).trans ?_
          rw [f1.2.2.2.1, jI]
        have oth : ∀ f, f ≠ paWaits → zI κ_3 f a0 = zI κ f a0 := fun f hf => by
          rw [hκ_3]
          exact (if_neg (fun z => hf z.1)).trans (congrFun (congrFun (f1.2.2.2.1.trans jI) f) a0)
        have nl : ∀ f, f ≠ paWaiting → ∀ c, zT κ (zR κ f a0) = c + 1 → zN κ_3 (zR κ_3 f a0) = zN κ (zR κ f a0) := fun f hf c hc => by
          rw [r, jR f hf]
          exact Z.l hc
        obtain ⟨I, G, c, t⟩ := paI_p W Ta0 Z (by rw [r]; exact jR _ (by decide)) (by rw [r]; exact jR _ (by decide)) (by
          unfold paL
          rw [nl paVarNames (by decide) _ (ty_paVarNames W Ta0), nl paArrayNames (by decide) _ (ty_paArrayNames W Ta0), nl paFunctionNames (by decide) _ (ty_paFunctionNames W Ta0), nl paOwnNames (by decide) _ (ty_paOwnNames W Ta0), nl paOwners (by decide) _ (ty_paOwners W Ta0), nl paLasts (by decide) _ (ty_paLasts W Ta0), nl paElses (by decide) _ (ty_paElses W Ta0)]
          exact L) (by
          unfold paC
          rw [r, n, o, e1, oth paOwns (by decide), oth paBlocks (by decide)]
          exact ⟨D.1, D.2.1, ⟨by omega, by omega⟩, j2, j3⟩) hp.1
        exact ⟨⟨G, I, ⟨oth _ (by decide), oth _ (by decide)⟩, by rw [G.2.2]; exact c _, by rw [G.2.1]; exact t _⟩, o⟩
      · rw [← hE]
        exact ho_5 W29 T29_0 hκ_1 hκ_3 (by rw [j29.2.1]; exact w0.1) (by rw [j29.2.1]; have := hp.2; omega)
  refine ⟨fun c5 => ?_, fun c5 => ?_⟩
  · skip
    refine hj29 _ _ _ W ?_ ?_
    · exact Ta0  -- t3
    · refine and_5 ?_ (fun o9 => rfl)  -- k4
      rw [lti, ofn_i oN] at c5
      exact ⟨rfl, rfl, zF.rf, rfl, fun _ _ => rfl, c5, wl.1, wl.2⟩
  · skip
    intro T6
    have c8 : (zI κ paWaits a0).toInt = zN κ (zR κ paWaiting a0) := by rw [lti, ofn_i oN] at c5; omega
    have e2 : (zI κ paWaits a0 * 2).toInt = (zI κ paWaits a0).toInt * 2 := by rw [mul_i (by rw [t2i]; omega) (by rw [t2i]; omega), t2i]
    have kn := cnk (x := zI κ paWaits a0 * 2) (by omega)
    refine Ar_copyOf_c W T6  ?_ (fun r7 κ_8 q9 => ?_)
    · exact ⟨⟨by rw [lei, t0i]; omega, by omega⟩, fun e => by
        have e9 := congrArg Int32.toInt e
        rw [ofn_i oN] at e9
        omega⟩
    intro W10
    intro M11
    intro T12
    refine ⟨?_, ?_⟩
    · rw [q9.1]; exact q9.2.2.1  -- b6
    intro κ_13 hκ_13
    intro W14
    refine hj29 _ _ _ W14 ?_ ?_
    · have h9 : κ_13 = uo κ_8 paWaiting a0 (zn κ) := by rw [hκ_13, q9.1]
      exact (gr_f (f := paWaiting) W (by decide +kernel) (by decide) Ta0 (by decide) q9.2 h9 (by omega) (by omega)).1.t Ta0 (by decide)
    · refine and_5 ?_ (fun o9 => ?_)  -- k8
      · have h9 : κ_13 = uo κ_8 paWaiting a0 (zn κ) := by rw [hκ_13, q9.1]
        obtain ⟨F9, u1, u2, u3, u4, u5, -⟩ := gr_f (f := paWaiting) W (by decide +kernel) (by decide) Ta0 (by decide) q9.2 h9 (by omega) (by omega)
        refine ⟨rfl, rfl, F9.mono (fun _ _ z => z.2), u1, fun f hf => u2 f a0 (fun z => hf z.1), ?_, ?_, ?_⟩
        · rw [u3, u4]; omega
        · rw [u3, u4]; omega
        · rw [u3, u4]; omega
      · have h9 : κ_13 = uo κ_8 paWaiting a0 (zn κ) := by rw [hκ_13, q9.1]
        obtain ⟨F9, u1, u2, u3, u4, u5, u6, -⟩ := gr_f (f := paWaiting) W (by decide +kernel) (by decide) Ta0 (by decide) q9.2 h9 (by omega) (by omega)
        have l9 := cnk w0.1
        refine gwR_5 (f := 1015) W Ta0 (Or.inl rfl) u1 u2 u5 (fun i hi => ?_)
        have hi' : i < (zI κ paWaits a0).toNatClampNeg := hi
        exact (congrFun (congrArg (zA κ_13) u3) i).trans (u6 i (by omega) (by omega))

end
section
set_option maxHeartbeats 1600000
/-! the parser's leaves -/
theorem Pa_refuse_q5o {C : zC} {n0 : Nat} {a0 : Nat} {a1 : Int32} {a2 : Int32} {κ : zS} {Q : zS → Prop} {X : zXp} (W : zW C n0 κ) (Ta0 : zT κ a0 = 10)  (hp : paI κ a0) (h : ∀ (κ' : zS), (False) → Q κ') (hx : ∀ (cls : String) (κ' : zS), ((paX κ cls κ' a0) ∧ rv5 a1 a2 (ab5 κ a0) = (zI κ' paFaultCode a0, zI κ' paFaultPlace a0)) → X cls κ') : zRun C 8 mPa_refuse [.ref a0, .int a1, .int a2] κ (oV Q X) := by
  refine Pa_refuse_run W Ta0 ?_
  replace W := W.lo (Nat.le_trans W.1.2.1 W.1.2.2) (Nat.le_refl (zn κ))
  unfold w_Pa_refuse_0
  have hj66 : ∀ (l0 : Nat) (s0 : Nat) (τ : zS), zW C (zn κ) τ → zT τ l0 = 10 → zT τ s0 = 10 → ((a0 = l0 ∧ paO κ τ a0 ∧ s0 = a0) ∧ rv5 a1 a2 (ab5 κ a0) = (zI τ paFaultCode a0, zI τ taLength (zR τ paTape a0))) → w_Pa_refuse_66 C (zn κ) Q X  l0 s0 τ := by
    rintro _ y66_s0 τ66 W66 T66_0 T66_1 ⟨⟨rfl, j66⟩, hE⟩
    unfold w_Pa_refuse_66
    intro κ_1 hκ_1
    intro W2
    intro κ_3 hκ_3
    refine hx _ _ ?_
    · refine and_5 ?_ (fun o9 => ?_)  -- x1
      · rw [j66.2] at hκ_1
        exact paX_o W Ta0 hp (j66.1.tr (paO_ui hκ_1 (by decide))) hκ_3
      · have q : κ_1 = ui τ66 paFaultPlace a0 (zI τ66 taLength (zR τ66 paTape a0)) := by rw [hκ_1, j66.2]
        rw [hκ_3, q, hE]
        exact Prod.ext rfl (if_pos ⟨rfl, rfl⟩).symm
  have hj35 : ∀ (l0 : Nat) (l3 : Int32) (s0 : Nat) (s1 : Int32) (τ : zS), zW C (zn κ) τ → zT τ l0 = 10 → zT τ s0 = 10 → ((κ = τ ∧ a0 = l0 ∧ s0 = a0) ∧ rv5 a1 a2 (ab5 κ a0) = (s1, pl5 l3 (ab5 κ a0))) → w_Pa_refuse_35 C (zn κ) Q X  l0 l3 s0 s1 τ := by
    rintro _ y35_3 y35_s0 y35_s1 _ W35 T35_0 T35_1 ⟨⟨rfl, rfl, j35⟩, hE⟩
    unfold w_Pa_refuse_35
    intro κ_4 hκ_4
    intro W5
    refine ⟨fun c6 => ?_, fun c6 => ?_⟩
    · skip
      refine hj66 _ _ _ W5 ?_ ?_ ?_
      · rw [j35] at hκ_4; exact (paO_ui hκ_4 (by decide)).1.t Ta0 (by decide)  -- t2
      · rw [j35] at hκ_4; exact (paO_ui hκ_4 (by decide)).1.t Ta0 (by decide)  -- t3
      · refine and_5 ?_ (fun o9 => ?_)  -- k4
        · rw [j35] at hκ_4; exact ⟨rfl, paO_ui hκ_4 (by decide), rfl⟩
        · rw [j35] at hκ_4
          have f1 : zI κ_4 paFaultCode a0 = y35_s1 := by rw [hκ_4]; exact if_pos ⟨rfl, rfl⟩
          have f2 : zI κ_4 taLength (zR κ_4 paTape a0) = zI κ taLength (zR κ paTape a0) := by rw [hκ_4]; rfl
          have q : pl5 y35_3 (ab5 κ a0) = zI κ taLength (zR κ paTape a0) := if_pos c6
          rw [f1, f2, hE, q]
    · skip
      refine ⟨fun c7 => ?_, fun c7 => ?_⟩
      · skip
        refine hj66 _ _ _ W5 ?_ ?_ ?_
        · rw [j35] at hκ_4; exact (paO_ui hκ_4 (by decide)).1.t Ta0 (by decide)  -- t5
        · rw [j35] at hκ_4; exact (paO_ui hκ_4 (by decide)).1.t Ta0 (by decide)  -- t6
        · refine and_5 ?_ (fun o9 => ?_)  -- k7
          · rw [j35] at hκ_4; exact ⟨rfl, paO_ui hκ_4 (by decide), rfl⟩
          · rw [j35] at hκ_4
            have f1 : zI κ_4 paFaultCode a0 = y35_s1 := by rw [hκ_4]; exact if_pos ⟨rfl, rfl⟩
            have f2 : zI κ_4 taLength (zR κ_4 paTape a0) = zI κ taLength (zR κ paTape a0) := by rw [hκ_4]; rfl
            have q : pl5 y35_3 (ab5 κ a0) = zI κ taLength (zR κ paTape a0) := (if_neg c6).trans (if_pos (by rw [hκ_4] at c7; exact c7))
            rw [f1, f2, hE, q]
      · skip
        refine ⟨?_, ?_⟩
        · rw [j35] at hκ_4
          have TT := hp.1.1.2
          have t1 : zI κ_4 taTotal (zR κ_4 paTape a0) = zI κ taTotal (zR κ paTape a0) := by rw [hκ_4]; rfl
          have r1 : zN κ_4 (zR κ_4 taPlaces (zR κ_4 paTape a0)) = zN κ (zR κ taPlaces (zR κ paTape a0)) := by rw [hκ_4]; rfl
          rw [lti, t0i] at c6
          rw [lei, t1] at c7
          rw [inb_iff, r1]
          omega
        intro κ_8 hκ_8
        intro W9
        intro κ_10 hκ_10
        refine hx _ _ ?_
        · refine and_5 ?_ (fun o9 => ?_)  -- x9
          · rw [j35] at hκ_4
            exact paX_o W Ta0 hp ((paO_ui hκ_4 (by decide)).tr (paO_ui hκ_8 (by decide))) hκ_10
          · rw [j35] at hκ_4
            have f1 : zI κ_10 paFaultCode a0 = y35_s1 := by
              rw [hκ_10, hκ_8]
              show zI κ_4 paFaultCode a0 = _
              rw [hκ_4]
              exact if_pos ⟨rfl, rfl⟩
            have f3 : zA κ_4 (zR κ_4 taPlaces (zR κ_4 paTape a0)) = zA κ (zR κ taPlaces (zR κ paTape a0)) := by rw [hκ_4]; rfl
            have f2 : zI κ_10 paFaultPlace a0 = zA κ (zR κ taPlaces (zR κ paTape a0)) y35_3.toNatClampNeg := by
              rw [← f3, hκ_10, hκ_8]
              exact if_pos ⟨rfl, rfl⟩
            have q : pl5 y35_3 (ab5 κ a0) = zA κ (zR κ taPlaces (zR κ paTape a0)) y35_3.toNatClampNeg := (if_neg c6).trans (if_neg (by rw [hκ_4] at c7; exact c7))
            rw [f1, f2, hE, q]
  have hj18 : ∀ (l0 : Nat) (l1 : Int32) (s0 : Int32) (τ : zS), zW C (zn κ) τ → zT τ l0 = 10 → ((κ = τ ∧ a0 = l0 ∧ a1 = l1 ∧ True) ∧ rv5 a1 a2 (ab5 κ a0) = (if zI κ paKind a0 = 143 then 1 else a1, pl5 s0 (ab5 κ a0))) → w_Pa_refuse_18 C (zn κ) Q X  l0 l1 s0 τ := by
    rintro _ _ y18_s0 _ W18 T18_0 ⟨⟨rfl, rfl, rfl, j18⟩, hE⟩
    unfold w_Pa_refuse_18
    refine ⟨fun c11 => ?_, fun c11 => ?_⟩
    · skip
      refine hj35 _ _ _ _ _ W18 ?_ ?_ ?_
      · exact Ta0  -- t10
      · exact Ta0  -- t11
      · refine and_5 ?_ (fun o9 => hE.trans (by rw [if_neg c11]))  -- k12
        exact ⟨rfl, rfl, rfl⟩
    · skip
      refine hj35 _ _ _ _ _ W18 ?_ ?_ ?_
      · exact Ta0  -- t13
      · exact Ta0  -- t14
      · refine and_5 ?_ (fun o9 => hE.trans (by rw [if_pos c11]))  -- k15
        exact ⟨rfl, rfl, rfl⟩
  refine ⟨fun c12 => ?_, fun c12 => ?_⟩
  · skip
    refine hj18 _ _ _ _ W ?_ ?_
    · exact Ta0  -- t16
    · refine and_5 ?_ (fun o9 => congrArg (fun z => (if zI κ paKind a0 = 143 then (1 : Int32) else a1, pl5 z (ab5 κ a0))) (if_neg c12))  -- k17
      exact ⟨rfl, rfl, rfl, trivial⟩
  · skip
    refine hj18 _ _ _ _ W ?_ ?_
    · exact Ta0  -- t18
    · refine and_5 ?_ (fun o9 => congrArg (fun z => (if zI κ paKind a0 = 143 then (1 : Int32) else a1, pl5 z (ab5 κ a0))) (if_pos c12))  -- k19
      exact ⟨rfl, rfl, rfl, trivial⟩

def f5_Pa_take  (e : E5) : R5 Unit := rdB5 (stI5 paAt (((e.1 paAt) + (1 : Int32))) e) (fun e1 _ => (if (e1.1 paAt) < (0 : Int32) then rdB5 (stI5 paKind ((142 : Int32)) e1) (fun e3 _ => .inl (e3, ())) else (if (e1.1 taTotal) ≤ (e1.1 paAt) then rdB5 (stI5 paKind ((142 : Int32)) e1) (fun e4 _ => .inl (e4, ())) else rdB5 (stI5 paKind ((e1.2.1 taKinds ((e1.1 paAt)).toNatClampNeg)) e1) (fun e5 _ => .inl (e5, ())))))

def f5_Pa_expect (a1 : Int32) (e : E5) : R5 Unit := (if (e.1 paKind) = a1 then .inl (e, ()) else .inr (rv5 ((2 : Int32)) ((e.1 paAt)) e))

def f5_Pa_pass (a1 : Int32) (e : E5) : R5 Unit := (if (e.1 paKind) = a1 then rdB5 (f5_Pa_take e) (fun e1 _ => .inl (e1, ())) else .inr (rv5 ((2 : Int32)) ((e.1 paAt)) e))

def f5_Pa_openSign_35  (e : E5) : R5 Unit := rdB5 (stI5 paOpen (((e.1 paOpen) + (1 : Int32))) e) (fun e1 _ => rdB5 (f5_Pa_take e1) (fun e2 _ => .inl (e2, ())))
def f5_Pa_openSign_17  (e : E5) : R5 Unit := (if (e.1 paOpen) < (40 : Int32) then (f5_Pa_openSign_35 e) else .inr (rv5 ((3 : Int32)) ((e.1 paAt)) e))
def f5_Pa_openSign (a1 : Int32) (e : E5) : R5 Unit := (if (e.1 paKind) = a1 then (f5_Pa_openSign_17 e) else .inr (rv5 ((2 : Int32)) ((e.1 paAt)) e))

def f5_Pa_closeSign_17  (e : E5) : R5 Unit := rdB5 (stI5 paOpen (((e.1 paOpen) - (1 : Int32))) e) (fun e1 _ => rdB5 (f5_Pa_take e1) (fun e2 _ => .inl (e2, ())))
def f5_Pa_closeSign (a1 : Int32) (e : E5) : R5 Unit := (if (e.1 paKind) = a1 then (f5_Pa_closeSign_17 e) else .inr (rv5 ((2 : Int32)) ((e.1 paAt)) e))

def f5_Pa_newName_143  (e : E5) : R5 Int32 := rdB5 (f5_Pa_take e) (fun e1 _ => .inl (e1, ((e1.1 paAt) - (1 : Int32))))
def f5_Pa_newName_128 (a1 a2 : Int32) (e : E5) : R5 Int32 := (if a1 < a2 then (f5_Pa_newName_143 e) else .inr (rv5 ((15 : Int32)) ((e.1 paAt)) e))
def f5_Pa_newName_113 (a1 a2 s0 : Int32) (e : E5) : R5 Int32 := (if s0 = (0 : Int32) then (f5_Pa_newName_128 (a1) (a2) e) else .inr (rv5 ((10 : Int32)) ((e.1 paAt)) e))
def f5_Pa_newName (a1 a2 : Int32) (e : E5) : R5 Int32 := rdB5 (f5_Pa_expect ((140 : Int32)) e) (fun e1 _ => pb5 (f5_Ta_findName (tq5 e1) (e1.2.1 paVarNames) (e1.2.2 paVarNames) (e1.1 coVars) (e1.1 paAt)) (fun r6 => (if r6 = (-1 : Int32) then pb5 (f5_Ta_findName (tq5 e1) (e1.2.1 paArrayNames) (e1.2.2 paArrayNames) (e1.1 coArrays) (e1.1 paAt)) (fun r11 => (if r11 = (-1 : Int32) then pb5 (f5_Ta_findName (tq5 e1) (e1.2.1 paFunctionNames) (e1.2.2 paFunctionNames) (e1.1 coFunctions) (e1.1 paAt)) (fun r16 => (if r16 = (-1 : Int32) then pb5 (f5_Ta_findName (tq5 e1) (e1.2.1 paOwnNames) (e1.2.2 paOwnNames) (e1.1 paOwns) (e1.1 paAt)) (fun r21 => (if r21 = (-1 : Int32) then (f5_Pa_newName_113 (a1) (a2) ((0 : Int32)) e1) else (f5_Pa_newName_113 (a1) (a2) ((1 : Int32)) e1))) else (f5_Pa_newName_113 (a1) (a2) ((1 : Int32)) e1))) else (f5_Pa_newName_113 (a1) (a2) ((1 : Int32)) e1))) else (f5_Pa_newName_113 (a1) (a2) ((1 : Int32)) e1))))

def f5_Pa_findArray (a1 : Int32) (e : E5) : R5 Int32 := pb5 (f5_Ta_findName (tq5 e) (e.2.1 paArrayNames) (e.2.2 paArrayNames) (e.1 coArrays) (a1)) (fun r2 => (if r2 = (-1 : Int32) then .inr (rv5 ((11 : Int32)) (a1) e) else .inl (e, r2)))

def f5_Pa_findVariable (a1 : Int32) (e : E5) : R5 Int32 := pb5 (f5_Ta_findName (tq5 e) (e.2.1 paOwnNames) (e.2.2 paOwnNames) (e.1 paOwns) (a1)) (fun r2 => (if r2 = (-1 : Int32) then pb5 (f5_Ta_findName (tq5 e) (e.2.1 paVarNames) (e.2.2 paVarNames) (e.1 coVars) (a1)) (fun r6 => (if r6 = (-1 : Int32) then .inr (rv5 ((11 : Int32)) (a1) e) else .inl (e, r2))) else .inl (e, r2)))

def f5_Pa_addOwn (a1 : Int32) (e : E5) : R5 Unit := (if (8 : Int32) ≤ (e.1 paOwns) then .inl (e, ()) else rdB5 (sa5 paOwnNames (((e.1 paOwns)).toNatClampNeg) (a1) e) (fun e1 _ => rdB5 (stI5 paOwns (((e1.1 paOwns) + (1 : Int32))) e1) (fun e3 _ => .inl (e3, ()))))

def f5_Pa_pushBlock (a1 a2 : Int32) (e : E5) : R5 Unit := (if (Int32.ofNat (e.2.2 paOwners)) ≤ (e.1 paBlocks) then .inl (e, ()) else rdB5 (sa5 paOwners (((e.1 paBlocks)).toNatClampNeg) (a1) e) (fun e1 _ => rdB5 (sa5 paLasts (((e1.1 paBlocks)).toNatClampNeg) ((-1 : Int32)) e1) (fun e3 _ => rdB5 (sa5 paElses (((e3.1 paBlocks)).toNatClampNeg) ((vp_nar .boolean a2)) e3) (fun e5 _ => rdB5 (stI5 paBlocks (((e5.1 paBlocks) + (1 : Int32))) e5) (fun e7 _ => .inl (e7, ()))))))

def f5_Pa_setPlace (a1 a2 a3 : Int32) (e : E5) : R5 Unit := rdB5 (f5_Co_setColumn (a1) ((1 : Int32)) (a2) e) (fun e1 _ => rdB5 (f5_Co_setColumn (a1) ((2 : Int32)) (a3) e1) (fun e5 _ => .inl (e5, ())))

/-- a throw whose fault's code isn't 0 -/
def paX5 (κ : zS) (cls : String) (κ' : zS) (p : Nat) : Prop := paX κ cls κ' p ∧ zI κ' paFaultCode p ≠ 0
theorem paX5_tr {κ τ κ' : zS} {cls : String} {p : Nat} (h : paF κ τ p) (g : paX5 τ cls κ' p) : paX5 κ cls κ' p := ⟨paX_tr h g.1, g.2⟩
theorem rv_n5 {f t : Int32} {e : E5} (h : f ≠ 0) : (rv5 f t e).1 ≠ 0 := by
  show (if e.1 paKind = 143 then (1 : Int32) else f) ≠ 0
  by_cases c : e.1 paKind = 143
  · rw [if_pos c]; decide
  · rw [if_neg c]; exact h
theorem Pa_refuse_q5 {C : zC} {n0 : Nat} {a0 : Nat} {a1 : Int32} {a2 : Int32} {κ : zS} {Q : zS → Prop} {X : zXp} (h0 : a1 ≠ 0) (W : zW C n0 κ) (Ta0 : zT κ a0 = 10)  (hp : paI κ a0) (h : ∀ (κ' : zS), (False) → Q κ') (hx : ∀ (cls : String) (κ' : zS), ((paX5 κ cls κ' a0) ∧ rv5 a1 a2 (ab5 κ a0) = (zI κ' paFaultCode a0, zI κ' paFaultPlace a0)) → X cls κ') : zRun C 8 mPa_refuse [.ref a0, .int a1, .int a2] κ (oV Q X) :=
  Pa_refuse_q5o W Ta0 hp h (fun cls κ' q => hx cls κ' ⟨⟨q.1, by
    have z : (rv5 a1 a2 (ab5 κ a0)).1 = zI κ' paFaultCode a0 := congrArg Prod.fst q.2
    rw [← z]
    exact rv_n5 h0⟩, q.2⟩)

theorem Pa_take_q5 {C : zC} {n0 : Nat} {a0 : Nat} {κ : zS} {Q : zS → Prop} (W : zW C n0 κ) (Ta0 : zT κ a0 = 10)  (hp : paI κ a0 ∧ -1 ≤ (zI κ paAt a0).toInt ∧ (zI κ paAt a0).toInt < (zI κ taTotal (zR κ paTape a0)).toInt) (h : ∀ (κ' : zS), ((paO κ κ' a0 ∧ paK κ' a0 ∧ (zI κ' paAt a0).toInt = (zI κ paAt a0).toInt + 1) ∧ f5_Pa_take (ab5 κ a0) = .inl (ab5 κ' a0, ())) → Q κ') : zRun C 0 mPa_take [.ref a0] κ (oV Q noX) := by
  refine Pa_take_run W Ta0 ?_
  replace W := W.lo (Nat.le_trans W.1.2.1 W.1.2.2) (Nat.le_refl (zn κ))
  unfold w_Pa_take_0
  obtain ⟨H, p0, p1⟩ := hp
  have TT := H.1.1.2
  have tb := H.1.2.2
  have hE : f5_Pa_take (ab5 κ a0) = f5_Pa_take (ab5 κ a0) := rfl
  intro κ_1 hκ_1
  replace hE := rb_i5 hE (ab_ui5 (p := a0) (f := paAt) hκ_1 (by decide) (by decide))
  intro W2
  have O1 : paO κ κ_1 a0 := paO_ui hκ_1 (by decide)
  have a1 : zI κ_1 paAt a0 = zI κ paAt a0 + 1 := by rw [hκ_1]; exact if_pos ⟨rfl, rfl⟩
  have e1 : (zI κ paAt a0 + 1).toInt = (zI κ paAt a0).toInt + 1 := by rw [add_i (by rw [t1i]; omega) (by rw [t1i]; omega), t1i]
  have t1 : zI κ_1 taTotal (zR κ_1 paTape a0) = zI κ taTotal (zR κ paTape a0) := by rw [hκ_1]; rfl
  refine ⟨fun c3 => ?_, fun c3 => ?_⟩
  · skip
    replace hE := rb_t5 hE c3
    intro κ_4 hκ_4
    replace hE := rb_i5 hE (ab_ui5 (p := a0) (f := paKind) hκ_4 (by decide) (by decide))
    intro W5
    refine h _ ?_
    · refine and_5 ?_ (fun o9 => hE)  -- q1
      exfalso
      rw [lti, t0i, a1, e1] at c3
      omega
  · skip
    replace hE := rb_f5 hE c3
    refine ⟨fun c6 => ?_, fun c6 => ?_⟩
    · skip
      replace hE := rb_t5 hE c6
      intro κ_7 hκ_7
      replace hE := rb_i5 hE (ab_ui5 (p := a0) (f := paKind) hκ_7 (by decide) (by decide))
      intro W8
      refine h _ ?_
      · refine and_5 ?_ (fun o9 => hE)  -- q2
        rw [lei, t1, a1, e1] at c6
        have ea : zI κ_7 paAt a0 = zI κ_1 paAt a0 := by rw [hκ_7]; rfl
        have et : zI κ_7 taTotal (zR κ_7 paTape a0) = zI κ_1 taTotal (zR κ_1 paTape a0) := by rw [hκ_7]; rfl
        have ek : zI κ_7 paKind a0 = 142 := by rw [hκ_7]; exact if_pos ⟨rfl, rfl⟩
        refine ⟨O1.tr (paO_ui hκ_7 (by decide)), ⟨?_, Or.inr ek⟩, by rw [ea, a1, e1]⟩
        rw [ea, et, a1, e1, t1]
        omega
    · skip
      replace hE := rb_f5 hE c6
      refine ⟨?_, ?_⟩
      · rw [lti, t0i, a1, e1] at c3
        rw [lei, t1, a1, e1] at c6
        have r1 : zN κ_1 (zR κ_1 taKinds (zR κ_1 paTape a0)) = zN κ (zR κ taKinds (zR κ paTape a0)) := by rw [hκ_1]; rfl
        rw [inb_iff, a1, e1, r1]
        omega
      intro κ_9 hκ_9
      replace hE := rb_i5 hE (ab_ui5 (p := a0) (f := paKind) hκ_9 (by decide) (by decide))
      intro W10
      refine h _ ?_
      · refine and_5 ?_ (fun o9 => hE)  -- q4
        rw [lei, t1, a1, e1] at c6
        have ea : zI κ_9 paAt a0 = zI κ_1 paAt a0 := by rw [hκ_9]; rfl
        have et : zI κ_9 taTotal (zR κ_9 paTape a0) = zI κ_1 taTotal (zR κ_1 paTape a0) := by rw [hκ_9]; rfl
        refine ⟨O1.tr (paO_ui hκ_9 (by decide)), ?_, by rw [ea, a1, e1]⟩
        unfold paK
        rw [ea, et, a1, e1, t1]
        exact ⟨⟨by omega, by omega⟩, Or.inl (by omega)⟩

theorem Pa_expect_q5 {C : zC} {n0 : Nat} {a0 : Nat} {a1 : Int32} {κ : zS} {Q : zS → Prop} {X : zXp} (W : zW C n0 κ) (Ta0 : zT κ a0 = 10)  (hp : paI κ a0) (h : ∀ (κ' : zS), ((κ = κ' ∧ zI κ paKind a0 = a1) ∧ f5_Pa_expect a1 (ab5 κ a0) = .inl (ab5 κ' a0, ())) → Q κ') (hx : ∀ (cls : String) (κ' : zS), ((paX5 κ cls κ' a0) ∧ f5_Pa_expect a1 (ab5 κ a0) = .inr (zI κ' paFaultCode a0, zI κ' paFaultPlace a0)) → X cls κ') : zRun C 9 mPa_expect [.ref a0, .int a1] κ (oV Q X) := by
  refine Pa_expect_run W Ta0 ?_
  replace W := W.lo (Nat.le_trans W.1.2.1 W.1.2.2) (Nat.le_refl (zn κ))
  unfold w_Pa_expect_0
  have hE : f5_Pa_expect a1 (ab5 κ a0) = f5_Pa_expect a1 (ab5 κ a0) := rfl
  refine ⟨fun c1 => ?_, fun c1 => ?_⟩
  · skip
    replace hE := rb_t5 hE c1
    refine h _ ?_
    · refine and_5 ?_ (fun o9 => hE)  -- q1
      exact ⟨rfl, c1⟩
  · skip
    replace hE := rb_f5 hE c1
    intro T2
    refine Pa_refuse_q5 (by decide) W T2  ?_ (fun κ_3 q4 => False.elim q4) (fun cls9 κ9 q9 => hx _ _ ?_)
    · exact hp  -- p2
    obtain ⟨q9, z9⟩ := q9
    · refine and_5 ?_ (fun o9 => rb_r5 hE z9)  -- x3
      exact q9

theorem Pa_pass_q5 {C : zC} {n0 : Nat} {a0 : Nat} {a1 : Int32} {κ : zS} {Q : zS → Prop} {X : zXp} (W : zW C n0 κ) (Ta0 : zT κ a0 = 10)  (hp : paI κ a0 ∧ paK κ a0 ∧ a1 ≠ 142) (h : ∀ (κ' : zS), ((paT κ κ' a0) ∧ f5_Pa_pass a1 (ab5 κ a0) = .inl (ab5 κ' a0, ())) → Q κ') (hx : ∀ (cls : String) (κ' : zS), ((paX5 κ cls κ' a0) ∧ f5_Pa_pass a1 (ab5 κ a0) = .inr (zI κ' paFaultCode a0, zI κ' paFaultPlace a0)) → X cls κ') : zRun C 9 mPa_pass [.ref a0, .int a1] κ (oV Q X) := by
  refine Pa_pass_run W Ta0 ?_
  replace W := W.lo (Nat.le_trans W.1.2.1 W.1.2.2) (Nat.le_refl (zn κ))
  unfold w_Pa_pass_0
  have hE : f5_Pa_pass a1 (ab5 κ a0) = f5_Pa_pass a1 (ab5 κ a0) := rfl
  refine ⟨fun c1 => ?_, fun c1 => ?_⟩
  · skip
    replace hE := rb_t5 hE c1
    intro T2
    refine Pa_take_q5 W T2  ?_ (fun κ_3 q4 => ?_)
    · exact ⟨hp.1, paK_t hp.2.1 c1 hp.2.2⟩  -- p1
    obtain ⟨q4, z9⟩ := q4
    replace hE := rb_i5 hE z9
    intro W5
    intro M6
    refine h _ ?_
    · refine and_5 ?_ (fun o9 => hE)  -- q2
      exact q4
  · skip
    replace hE := rb_f5 hE c1
    intro T7
    refine Pa_refuse_q5 (by decide) W T7  ?_ (fun κ_8 q9 => False.elim q9) (fun cls9 κ9 q9 => hx _ _ ?_)
    · exact hp.1  -- p3
    obtain ⟨q9, z9⟩ := q9
    · refine and_5 ?_ (fun o9 => rb_r5 hE z9)  -- x4
      exact q9

theorem Pa_openSign_q5 {C : zC} {n0 : Nat} {a0 : Nat} {a1 : Int32} {κ : zS} {Q : zS → Prop} {X : zXp} (W : zW C n0 κ) (Ta0 : zT κ a0 = 10)  (hp : paI κ a0 ∧ paK κ a0 ∧ a1 ≠ 142) (h : ∀ (κ' : zS), ((paT κ κ' a0) ∧ f5_Pa_openSign a1 (ab5 κ a0) = .inl (ab5 κ' a0, ())) → Q κ') (hx : ∀ (cls : String) (κ' : zS), ((paX5 κ cls κ' a0) ∧ f5_Pa_openSign a1 (ab5 κ a0) = .inr (zI κ' paFaultCode a0, zI κ' paFaultPlace a0)) → X cls κ') : zRun C 9 mPa_openSign [.ref a0, .int a1] κ (oV Q X) := by
  refine Pa_openSign_run W Ta0 ?_
  replace W := W.lo (Nat.le_trans W.1.2.1 W.1.2.2) (Nat.le_refl (zn κ))
  unfold w_Pa_openSign_0
  have hj35 : ∀ (l0 : Nat) (τ : zS), zW C (zn κ) τ → zT τ l0 = 10 → ((κ = τ ∧ a0 = l0 ∧ zI κ paKind a0 = a1) ∧ f5_Pa_openSign a1 (ab5 κ a0) = f5_Pa_openSign_35 (ab5 τ a0)) → w_Pa_openSign_35 C (zn κ) Q X  l0 τ := by
    rintro _ _ W35 T35_0 ⟨⟨rfl, rfl, j35⟩, hE⟩
    unfold w_Pa_openSign_35
    intro κ_1 hκ_1
    replace hE := rb_i5 hE (ab_ui5 (p := a0) (f := paOpen) hκ_1 (by decide) (by decide))
    intro W2
    intro T3
    refine Pa_take_q5 W2 T3  ?_ (fun κ_4 q5 => ?_)
    · exact pa_pre W35 Ta0 hp.1 hp.2.1 j35 hp.2.2 hκ_1  -- p1
    obtain ⟨q5, z9⟩ := q5
    replace hE := rb_i5 hE z9
    intro W6
    intro M7
    refine h _ ?_
    · refine and_5 ?_ (fun o9 => hE)  -- q2
      exact paT_o W35 Ta0 hκ_1 q5
  have hj17 : ∀ (l0 : Nat) (τ : zS), zW C (zn κ) τ → zT τ l0 = 10 → ((κ = τ ∧ a0 = l0 ∧ zI κ paKind a0 = a1) ∧ f5_Pa_openSign a1 (ab5 κ a0) = f5_Pa_openSign_17 (ab5 τ a0)) → w_Pa_openSign_17 C (zn κ) Q X  l0 τ := by
    rintro _ _ W17 T17_0 ⟨⟨rfl, rfl, j17⟩, hE⟩
    unfold w_Pa_openSign_17
    refine ⟨fun c8 => ?_, fun c8 => ?_⟩
    · skip
      replace hE := rb_t5 hE c8
      refine hj35 _ _ W17 ?_ ?_
      · exact Ta0  -- t3
      · refine and_5 ?_ (fun o9 => hE)  -- k4
        exact ⟨rfl, rfl, j17⟩
    · skip
      replace hE := rb_f5 hE c8
      intro T9
      refine Pa_refuse_q5 (by decide) W17 T9  ?_ (fun κ_10 q11 => False.elim q11) (fun cls9 κ9 q9 => hx _ _ ?_)
      · exact hp.1  -- p5
      obtain ⟨q9, z9⟩ := q9
      · refine and_5 ?_ (fun o9 => rb_r5 hE z9)  -- x6
        exact q9
  have hE : f5_Pa_openSign a1 (ab5 κ a0) = f5_Pa_openSign a1 (ab5 κ a0) := rfl
  refine ⟨fun c12 => ?_, fun c12 => ?_⟩
  · skip
    replace hE := rb_t5 hE c12
    refine hj17 _ _ W ?_ ?_
    · exact Ta0  -- t7
    · refine and_5 ?_ (fun o9 => hE)  -- k8
      exact ⟨rfl, rfl, c12⟩
  · skip
    replace hE := rb_f5 hE c12
    intro T13
    refine Pa_refuse_q5 (by decide) W T13  ?_ (fun κ_14 q15 => False.elim q15) (fun cls9 κ9 q9 => hx _ _ ?_)
    · exact hp.1  -- p9
    obtain ⟨q9, z9⟩ := q9
    · refine and_5 ?_ (fun o9 => rb_r5 hE z9)  -- x10
      exact q9

theorem Pa_closeSign_q5 {C : zC} {n0 : Nat} {a0 : Nat} {a1 : Int32} {κ : zS} {Q : zS → Prop} {X : zXp} (W : zW C n0 κ) (Ta0 : zT κ a0 = 10)  (hp : paI κ a0 ∧ paK κ a0 ∧ a1 ≠ 142) (h : ∀ (κ' : zS), ((paT κ κ' a0) ∧ f5_Pa_closeSign a1 (ab5 κ a0) = .inl (ab5 κ' a0, ())) → Q κ') (hx : ∀ (cls : String) (κ' : zS), ((paX5 κ cls κ' a0) ∧ f5_Pa_closeSign a1 (ab5 κ a0) = .inr (zI κ' paFaultCode a0, zI κ' paFaultPlace a0)) → X cls κ') : zRun C 9 mPa_closeSign [.ref a0, .int a1] κ (oV Q X) := by
  refine Pa_closeSign_run W Ta0 ?_
  replace W := W.lo (Nat.le_trans W.1.2.1 W.1.2.2) (Nat.le_refl (zn κ))
  unfold w_Pa_closeSign_0
  have hj17 : ∀ (l0 : Nat) (τ : zS), zW C (zn κ) τ → zT τ l0 = 10 → ((κ = τ ∧ a0 = l0 ∧ zI κ paKind a0 = a1) ∧ f5_Pa_closeSign a1 (ab5 κ a0) = f5_Pa_closeSign_17 (ab5 τ a0)) → w_Pa_closeSign_17 C (zn κ) Q X  l0 τ := by
    rintro _ _ W17 T17_0 ⟨⟨rfl, rfl, j17⟩, hE⟩
    unfold w_Pa_closeSign_17
    intro κ_1 hκ_1
    replace hE := rb_i5 hE (ab_ui5 (p := a0) (f := paOpen) hκ_1 (by decide) (by decide))
    intro W2
    intro T3
    refine Pa_take_q5 W2 T3  ?_ (fun κ_4 q5 => ?_)
    · exact pa_pre W17 Ta0 hp.1 hp.2.1 j17 hp.2.2 hκ_1  -- p1
    obtain ⟨q5, z9⟩ := q5
    replace hE := rb_i5 hE z9
    intro W6
    intro M7
    refine h _ ?_
    · refine and_5 ?_ (fun o9 => hE)  -- q2
      exact paT_o W17 Ta0 hκ_1 q5
  have hE : f5_Pa_closeSign a1 (ab5 κ a0) = f5_Pa_closeSign a1 (ab5 κ a0) := rfl
  refine ⟨fun c8 => ?_, fun c8 => ?_⟩
  · skip
    replace hE := rb_t5 hE c8
    refine hj17 _ _ W ?_ ?_
    · exact Ta0  -- t3
    · refine and_5 ?_ (fun o9 => hE)  -- k4
      exact ⟨rfl, rfl, c8⟩
  · skip
    replace hE := rb_f5 hE c8
    intro T9
    refine Pa_refuse_q5 (by decide) W T9  ?_ (fun κ_10 q11 => False.elim q11) (fun cls9 κ9 q9 => hx _ _ ?_)
    · exact hp.1  -- p5
    obtain ⟨q9, z9⟩ := q9
    · refine and_5 ?_ (fun o9 => rb_r5 hE z9)  -- x6
      exact q9

theorem Pa_newName_q5 {C : zC} {n0 : Nat} {a0 : Nat} {a1 : Int32} {a2 : Int32} {κ : zS} {Q : Int32 → zS → Prop} {X : zXp} (W : zW C n0 κ) (Ta0 : zT κ a0 = 10)  (hp : paI κ a0 ∧ paK κ a0) (h : ∀ (v : Int32) (κ' : zS), ((paT κ κ' a0 ∧ a1.toInt < a2.toInt) ∧ f5_Pa_newName a1 a2 (ab5 κ a0) = .inl (ab5 κ' a0, v)) → Q v κ') (hx : ∀ (cls : String) (κ' : zS), ((paX5 κ cls κ' a0) ∧ f5_Pa_newName a1 a2 (ab5 κ a0) = .inr (zI κ' paFaultCode a0, zI κ' paFaultPlace a0)) → X cls κ') : zRun C 10 mPa_newName [.ref a0, .int a1, .int a2] κ (oI Q X) := by
  refine Pa_newName_run W Ta0 ?_
  replace W := W.lo (Nat.le_trans W.1.2.1 W.1.2.2) (Nat.le_refl (zn κ))
  unfold w_Pa_newName_0
  have hj143 : ∀ (l0 : Nat) (τ : zS), zW C (zn κ) τ → zT τ l0 = 10 → ((κ = τ ∧ a0 = l0 ∧ zI κ paKind a0 = 140 ∧ a1.toInt < a2.toInt) ∧ f5_Pa_newName a1 a2 (ab5 κ a0) = f5_Pa_newName_143 (ab5 τ a0)) → w_Pa_newName_143 C (zn κ) Q X  l0 τ := by
    rintro _ _ W143 T143_0 ⟨⟨rfl, rfl, j143⟩, hE⟩
    unfold w_Pa_newName_143
    intro T1
    refine Pa_take_q5 W143 T1  ?_ (fun κ_2 q3 => ?_)
    · exact ⟨hp.1, paK_t hp.2 j143.1 (by decide)⟩  -- p1
    obtain ⟨q3, z9⟩ := q3
    replace hE := rb_i5 hE z9
    intro W4
    intro M5
    refine h _ _ ?_
    · refine and_5 ?_ (fun o9 => hE)  -- q2
      exact ⟨q3, j143.2⟩
  have hj128 : ∀ (l0 : Nat) (l1 : Int32) (l2 : Int32) (τ : zS), zW C (zn κ) τ → zT τ l0 = 10 → ((κ = τ ∧ a0 = l0 ∧ a1 = l1 ∧ a2 = l2 ∧ zI κ paKind a0 = 140) ∧ f5_Pa_newName a1 a2 (ab5 κ a0) = f5_Pa_newName_128 l1 l2 (ab5 τ a0)) → w_Pa_newName_128 C (zn κ) Q X  l0 l1 l2 τ := by
    rintro _ _ _ _ W128 T128_0 ⟨⟨rfl, rfl, rfl, rfl, j128⟩, hE⟩
    unfold w_Pa_newName_128
    refine ⟨fun c6 => ?_, fun c6 => ?_⟩
    · skip
      replace hE := rb_t5 hE c6
      refine hj143 _ _ W128 ?_ ?_
      · exact Ta0  -- t3
      · refine and_5 ?_ (fun o9 => hE)  -- k4
        exact ⟨rfl, rfl, j128, by rw [lti] at c6; exact c6⟩
    · skip
      replace hE := rb_f5 hE c6
      intro T7
      refine Pa_refuse_q5 (by decide) W128 T7  ?_ (fun κ_8 q9 => False.elim q9) (fun cls9 κ9 q9 => hx _ _ ?_)
      · exact hp.1  -- p5
      obtain ⟨q9, z9⟩ := q9
      · refine and_5 ?_ (fun o9 => rb_r5 hE z9)  -- x6
        exact q9
  have hj113 : ∀ (l0 : Nat) (l1 : Int32) (l2 : Int32) (s0 : Int32) (τ : zS), zW C (zn κ) τ → zT τ l0 = 10 → ((κ = τ ∧ a0 = l0 ∧ a1 = l1 ∧ a2 = l2 ∧ zI κ paKind a0 = 140) ∧ f5_Pa_newName a1 a2 (ab5 κ a0) = f5_Pa_newName_113 l1 l2 s0 (ab5 τ a0)) → w_Pa_newName_113 C (zn κ) Q X  l0 l1 l2 s0 τ := by
    rintro _ _ _ y113_s0 _ W113 T113_0 ⟨⟨rfl, rfl, rfl, rfl, j113⟩, hE⟩
    unfold w_Pa_newName_113
    refine ⟨fun c10 => ?_, fun c10 => ?_⟩
    · skip
      replace hE := rb_t5 hE c10
      refine hj128 _ _ _ _ W113 ?_ ?_
      · exact Ta0  -- t7
      · refine and_5 ?_ (fun o9 => hE)  -- k8
        exact ⟨rfl, rfl, rfl, rfl, j113⟩
    · skip
      replace hE := rb_f5 hE c10
      intro T11
      refine Pa_refuse_q5 (by decide) W113 T11  ?_ (fun κ_12 q13 => False.elim q13) (fun cls9 κ9 q9 => hx _ _ ?_)
      · exact hp.1  -- p9
      obtain ⟨q9, z9⟩ := q9
      · refine and_5 ?_ (fun o9 => rb_r5 hE z9)  -- x10
        exact q9
  have hE : f5_Pa_newName a1 a2 (ab5 κ a0) = f5_Pa_newName a1 a2 (ab5 κ a0) := rfl
  intro T14
  refine Pa_expect_q5 W T14  ?_ (fun κ_15 q16 => ?_) (fun cls9 κ9 q9 => hx _ _ ?_)
  · exact hp.1  -- p11
  rotate_left
  obtain ⟨q9, z9⟩ := q9
  · refine and_5 ?_ (fun o9 => rb_x5 hE z9)  -- x12
    exact q9
  obtain ⟨q16, z9⟩ := q16
  replace hE := rb_i5 hE z9
  obtain ⟨rfl, hk⟩ := q16
  intro W17
  intro M18
  intro T19
  intro T20
  refine Ta_findName_q5 W17 T19 T20  ?_ (fun r21 q23 => ?_)
  · exact ⟨hp.1.1.1, hp.1.1.2.1⟩  -- p13
  obtain ⟨q23, z9⟩ := q23
  replace hE := rb_p5 hE z9
  intro W24
  intro M25
  refine ⟨fun c26 => ?_, fun c26 => ?_⟩
  · skip
    replace hE := rb_f5 hE c26
    refine hj113 _ _ _ _ _ W24 ?_ ?_
    · exact Ta0  -- t14
    · refine and_5 ?_ (fun o9 => hE)  -- k15
      exact ⟨rfl, rfl, rfl, rfl, hk⟩
  · skip
    replace hE := rb_t5 hE c26
    intro T27
    intro T28
    refine Ta_findName_q5 W24 T27 T28  ?_ (fun r29 q31 => ?_)
    · exact ⟨hp.1.1.1, hp.1.1.2.1⟩  -- p16
    obtain ⟨q31, z9⟩ := q31
    replace hE := rb_p5 hE z9
    intro W32
    intro M33
    refine ⟨fun c34 => ?_, fun c34 => ?_⟩
    · skip
      replace hE := rb_f5 hE c34
      refine hj113 _ _ _ _ _ W32 ?_ ?_
      · exact Ta0  -- t17
      · refine and_5 ?_ (fun o9 => hE)  -- k18
        exact ⟨rfl, rfl, rfl, rfl, hk⟩
    · skip
      replace hE := rb_t5 hE c34
      intro T35
      intro T36
      refine Ta_findName_q5 W32 T35 T36  ?_ (fun r37 q39 => ?_)
      · exact ⟨hp.1.1.1, hp.1.1.2.1⟩  -- p19
      obtain ⟨q39, z9⟩ := q39
      replace hE := rb_p5 hE z9
      intro W40
      intro M41
      refine ⟨fun c42 => ?_, fun c42 => ?_⟩
      · skip
        replace hE := rb_f5 hE c42
        refine hj113 _ _ _ _ _ W40 ?_ ?_
        · exact Ta0  -- t20
        · refine and_5 ?_ (fun o9 => hE)  -- k21
          exact ⟨rfl, rfl, rfl, rfl, hk⟩
      · skip
        replace hE := rb_t5 hE c42
        intro T43
        intro T44
        refine Ta_findName_q5 W40 T43 T44  ?_ (fun r45 q47 => ?_)
        · exact ⟨hp.1.1.1, hp.1.1.2.1⟩  -- p22
        obtain ⟨q47, z9⟩ := q47
        replace hE := rb_p5 hE z9
        intro W48
        intro M49
        refine ⟨fun c50 => ?_, fun c50 => ?_⟩
        · skip
          replace hE := rb_t5 hE c50
          refine hj113 _ _ _ _ _ W48 ?_ ?_
          · exact Ta0  -- t23
          · refine and_5 ?_ (fun o9 => hE)  -- k24
            exact ⟨rfl, rfl, rfl, rfl, hk⟩
        · skip
          replace hE := rb_f5 hE c50
          refine hj113 _ _ _ _ _ W48 ?_ ?_
          · exact Ta0  -- t25
          · refine and_5 ?_ (fun o9 => hE)  -- k26
            exact ⟨rfl, rfl, rfl, rfl, hk⟩

theorem Pa_findArray_q5 {C : zC} {n0 : Nat} {a0 : Nat} {a1 : Int32} {κ : zS} {Q : Int32 → zS → Prop} {X : zXp} (W : zW C n0 κ) (Ta0 : zT κ a0 = 10)  (hp : paI κ a0) (h : ∀ (v : Int32), ((0 ≤ v.toInt ∧ v.toInt < 3) ∧ f5_Pa_findArray a1 (ab5 κ a0) = .inl (ab5 κ a0, v)) → Q v κ) (hx : ∀ (cls : String) (κ' : zS), ((paX5 κ cls κ' a0) ∧ f5_Pa_findArray a1 (ab5 κ a0) = .inr (zI κ' paFaultCode a0, zI κ' paFaultPlace a0)) → X cls κ') : zRun C 9 mPa_findArray [.ref a0, .int a1] κ (oI Q X) := by
  refine Pa_findArray_run W Ta0 ?_
  replace W := W.lo (Nat.le_trans W.1.2.1 W.1.2.2) (Nat.le_refl (zn κ))
  unfold w_Pa_findArray_0
  have hE : f5_Pa_findArray a1 (ab5 κ a0) = f5_Pa_findArray a1 (ab5 κ a0) := rfl
  intro T1
  intro T2
  refine Ta_findName_q5 W T1 T2  ?_ (fun r3 q5 => ?_)
  · exact ⟨hp.1.1, hp.1.2.1⟩  -- p1
  obtain ⟨q5, z9⟩ := q5
  replace hE := rb_p5 hE z9
  intro W6
  intro M7
  refine ⟨fun c8 => ?_, fun c8 => ?_⟩
  · skip
    replace hE := rb_f5 hE c8
    refine h _ ?_
    · refine and_5 ?_ (fun o9 => hE)  -- q2
      have L := hp.2.2.1.2.1
      have n1 : r3.toInt ≠ -1 := fun e => c8 (Int32.toInt_inj.mp (e.trans tmi.symm))
      obtain ⟨u1, u2, -⟩ := q5
      omega
  · skip
    replace hE := rb_t5 hE c8
    intro T9
    refine Pa_refuse_q5 (by decide) W6 T9  ?_ (fun κ_10 q11 => False.elim q11) (fun cls9 κ9 q9 => hx _ _ ?_)
    · exact hp  -- p3
    obtain ⟨q9, z9⟩ := q9
    · refine and_5 ?_ (fun o9 => rb_r5 hE z9)  -- x4
      exact q9

theorem Pa_findVariable_q5 {C : zC} {n0 : Nat} {a0 : Nat} {a1 : Int32} {κ : zS} {Q : Int32 → zS → Prop} {X : zXp} (W : zW C n0 κ) (Ta0 : zT κ a0 = 10)  (hp : paI κ a0) (h : ∀ (v : Int32), ((-1 ≤ v.toInt ∧ v.toInt < 8) ∧ f5_Pa_findVariable a1 (ab5 κ a0) = .inl (ab5 κ a0, v)) → Q v κ) (hx : ∀ (cls : String) (κ' : zS), ((paX5 κ cls κ' a0) ∧ f5_Pa_findVariable a1 (ab5 κ a0) = .inr (zI κ' paFaultCode a0, zI κ' paFaultPlace a0)) → X cls κ') : zRun C 9 mPa_findVariable [.ref a0, .int a1] κ (oI Q X) := by
  refine Pa_findVariable_run W Ta0 ?_
  replace W := W.lo (Nat.le_trans W.1.2.1 W.1.2.2) (Nat.le_refl (zn κ))
  unfold w_Pa_findVariable_0
  have hE : f5_Pa_findVariable a1 (ab5 κ a0) = f5_Pa_findVariable a1 (ab5 κ a0) := rfl
  intro T1
  intro T2
  refine Ta_findName_q5 W T1 T2  ?_ (fun r3 q5 => ?_)
  · exact ⟨hp.1.1, hp.1.2.1⟩  -- p1
  obtain ⟨q5, z9⟩ := q5
  replace hE := rb_p5 hE z9
  intro W6
  intro M7
  refine ⟨fun c8 => ?_, fun c8 => ?_⟩
  · skip
    replace hE := rb_f5 hE c8
    refine h _ ?_
    · refine and_5 ?_ (fun o9 => hE)  -- q2
      have L := hp.2.2.1.2.2.2.1
      obtain ⟨u1, u2, -⟩ := q5
      omega
  · skip
    replace hE := rb_t5 hE c8
    intro T9
    intro T10
    refine Ta_findName_q5 W6 T9 T10  ?_ (fun r11 q13 => ?_)
    · exact ⟨hp.1.1, hp.1.2.1⟩  -- p3
    obtain ⟨q13, z9⟩ := q13
    replace hE := rb_p5 hE z9
    intro W14
    intro M15
    refine ⟨fun c16 => ?_, fun c16 => ?_⟩
    · skip
      replace hE := rb_f5 hE c16
      refine h _ ?_
      · refine and_5 ?_ (fun o9 => hE)  -- q4
        have L := hp.2.2.1.2.2.2.1
        obtain ⟨u1, u2, -⟩ := q5
        omega
    · skip
      replace hE := rb_t5 hE c16
      intro T17
      refine Pa_refuse_q5 (by decide) W14 T17  ?_ (fun κ_18 q19 => False.elim q19) (fun cls9 κ9 q9 => hx _ _ ?_)
      · exact hp  -- p5
      obtain ⟨q9, z9⟩ := q9
      · refine and_5 ?_ (fun o9 => rb_r5 hE z9)  -- x6
        exact q9

theorem Pa_addOwn_q5 {C : zC} {n0 : Nat} {a0 : Nat} {a1 : Int32} {κ : zS} {Q : zS → Prop} (W : zW C n0 κ) (Ta0 : zT κ a0 = 10)  (hp : paI κ a0) (h : ∀ (κ' : zS), ((paN κ κ' a0) ∧ f5_Pa_addOwn a1 (ab5 κ a0) = .inl (ab5 κ' a0, ())) → Q κ') : zRun C 0 mPa_addOwn [.ref a0, .int a1] κ (oV Q noX) := by
  refine Pa_addOwn_run W Ta0 ?_
  replace W := W.lo (Nat.le_trans W.1.2.1 W.1.2.2) (Nat.le_refl (zn κ))
  unfold w_Pa_addOwn_0
  have L := hp.2.2.1
  have D := hp.2.2.2
  have e8 : (8 : Int32).toInt = 8 := rfl
  have hE : f5_Pa_addOwn a1 (ab5 κ a0) = f5_Pa_addOwn a1 (ab5 κ a0) := rfl
  refine ⟨fun c1 => ?_, fun c1 => ?_⟩
  · skip
    replace hE := rb_t5 hE c1
    refine h _ ?_
    · refine and_5 ?_ (fun o9 => hE)  -- q1
      exact paN.rf hp
  · skip
    replace hE := rb_f5 hE c1
    have c9 : (zI κ paOwns a0).toInt < 8 := by rw [lei, e8] at c1; omega
    refine ⟨?_, ?_⟩
    · have l4 := L.2.2.2.1
      have o := D.1
      rw [inb_iff]; omega
    intro κ_2 hκ_2
    replace hE := rb_i5 hE (ab_ua5 (p := a0) (f := paOwnNames) W (by first | exact Ta0 | exact paS_t S0 Ta0 | assumption) hκ_2 (by decide))
    intro W3
    intro κ_4 hκ_4
    replace hE := rb_i5 hE (ab_ui5 (p := a0) (f := paOwns) hκ_4 (by decide) (by decide))
    intro W5
    refine h _ ?_
    · refine and_5 ?_ (fun o9 => hE)  -- q3
      have f1 := pa_ua W Ta0 (show zr paOwnNames = some 20 by decide +kernel) (by decide) hκ_2
      have Z : zF (objF a0) κ κ_4 := f1.1.tr (by rw [hκ_4]; exact zF_ui rfl)
      have r : zR κ_4 = zR κ := by rw [hκ_4]; exact f1.2.1
      have n : zN κ_4 = zN κ := by rw [hκ_4]; exact f1.2.2.1
      have o : zI κ_4 paOwns a0 = zI κ paOwns a0 + 1 := by
        rw [hκ_4]
        refine (if_pos ⟨rfl, rfl⟩).trans ?_
        rw [f1.2.2.2.1]
      have ob := D.1
      have e1 : (zI κ paOwns a0 + 1).toInt = (zI κ paOwns a0).toInt + 1 := by rw [add_i (by rw [t1i]; omega) (by rw [t1i]; omega), t1i]
      have oth : ∀ f, f ≠ paOwns → zI κ_4 f a0 = zI κ f a0 := fun f hf => by
        rw [hκ_4]
        exact (if_neg (fun z => hf z.1)).trans (congrFun (congrFun f1.2.2.2.1 f) a0)
      refine paN_p W Ta0 hp Z r n (oth _ (by decide)) (oth _ (by decide)) ?_
      unfold paC
      rw [r, n, o, e1, oth paBlocks (by decide), oth paWaits (by decide)]
      exact ⟨⟨by omega, by omega⟩, D.2⟩

theorem Pa_pushBlock_q5 {C : zC} {n0 : Nat} {a0 : Nat} {a1 : Int32} {a2 : Int32} {κ : zS} {Q : zS → Prop} (W : zW C n0 κ) (Ta0 : zT κ a0 = 10)  (hp : paI κ a0) (h : ∀ (κ' : zS), ((paN κ κ' a0) ∧ f5_Pa_pushBlock a1 a2 (ab5 κ a0) = .inl (ab5 κ' a0, ())) → Q κ') : zRun C 0 mPa_pushBlock [.ref a0, .int a1, .int a2] κ (oV Q noX) := by
  refine Pa_pushBlock_run W Ta0 ?_
  replace W := W.lo (Nat.le_trans W.1.2.1 W.1.2.2) (Nat.le_refl (zn κ))
  unfold w_Pa_pushBlock_0
  have L := hp.2.2.1
  have D := hp.2.2.2
  have l5 := L.2.2.2.2.1
  have l6 := L.2.2.2.2.2.1
  have l7 := L.2.2.2.2.2.2
  have oN := W.n (ty_paOwners W Ta0)
  have b := D.2.1
  have hE : f5_Pa_pushBlock a1 a2 (ab5 κ a0) = f5_Pa_pushBlock a1 a2 (ab5 κ a0) := rfl
  refine ⟨fun c1 => ?_, fun c1 => ?_⟩
  · skip
    replace hE := rb_t5 hE c1
    refine h _ ?_
    · refine and_5 ?_ (fun o9 => hE)  -- q1
      exact paN.rf hp
  · skip
    replace hE := rb_f5 hE c1
    have c9 : (zI κ paBlocks a0).toInt < 41 := by rw [lei, ofn_i oN] at c1; omega
    refine ⟨?_, ?_⟩
    · rw [inb_iff]; omega  -- b2
    intro κ_2 hκ_2
    replace hE := rb_i5 hE (ab_ua5 (p := a0) (f := paOwners) W (by first | exact Ta0 | exact paS_t S0 Ta0 | assumption) hκ_2 (by decide))
    intro W3
    have f1 := pa_ua W Ta0 (show zr paOwners = some 20 by decide +kernel) (by decide) hκ_2
    refine ⟨?_, ?_⟩
    · rw [f1.2.1, f1.2.2.1, f1.2.2.2.1, inb_iff]; omega  -- b3
    intro κ_4 hκ_4
    replace hE := rb_i5 hE (ab_ua5 (p := a0) (f := paLasts) W3 (by first | exact Ta0 | exact paS_t S0 Ta0 | assumption | (rw [hκ_2, ua_t5]; first | exact Ta0 | exact paS_t S0 Ta0 | assumption)) hκ_4 (by decide))
    intro W5
    have f2 := pa_ua W3 f1.2.2.2.2 (show zr paLasts = some 20 by decide +kernel) (by decide) hκ_4
    refine ⟨?_, ?_⟩
    · rw [f2.2.1, f2.2.2.1, f2.2.2.2.1, f1.2.1, f1.2.2.1, f1.2.2.2.1, inb_iff]; omega  -- b4
    intro κ_6 hκ_6
    replace hE := rb_i5 hE (ab_ua5 (p := a0) (f := paElses) W5 (by first | exact Ta0 | exact paS_t S0 Ta0 | assumption | (rw [hκ_4, ua_t5, hκ_2, ua_t5]; first | exact Ta0 | exact paS_t S0 Ta0 | assumption)) hκ_6 (by decide))
    intro W7
    intro κ_8 hκ_8
    replace hE := rb_i5 hE (ab_ui5 (p := a0) (f := paBlocks) hκ_8 (by decide) (by decide))
    intro W9
    refine h _ ?_
    · refine and_5 ?_ (fun o9 => hE)  -- q5
      have f3 := pa_ua W5 f2.2.2.2.2 (show zr paElses = some 23 by decide +kernel) (by decide) hκ_6
      have Z : zF (objF a0) κ κ_8 := ((f1.1.tr f2.1).tr f3.1).tr (by rw [hκ_8]; exact zF_ui rfl)
      have r : zR κ_8 = zR κ := by rw [hκ_8]; exact f3.2.1.trans (f2.2.1.trans f1.2.1)
      have n : zN κ_8 = zN κ := by rw [hκ_8]; exact f3.2.2.1.trans (f2.2.2.1.trans f1.2.2.1)
      have i6 : zI κ_6 = zI κ := f3.2.2.2.1.trans (f2.2.2.2.1.trans f1.2.2.2.1)
      have o : zI κ_8 paBlocks a0 = zI κ paBlocks a0 + 1 := by
        rw [hκ_8]
        refine (if_pos ⟨rfl, rfl⟩).trans ?_
        rw [i6]
      have e1 : (zI κ paBlocks a0 + 1).toInt = (zI κ paBlocks a0).toInt + 1 := by rw [add_i (by rw [t1i]; omega) (by rw [t1i]; omega), t1i]
      have oth : ∀ f, f ≠ paBlocks → zI κ_8 f a0 = zI κ f a0 := fun f hf => by
        rw [hκ_8]
        exact (if_neg (fun z => hf z.1)).trans (congrFun (congrFun i6 f) a0)
      refine paN_p W Ta0 hp Z r n (oth _ (by decide)) (oth _ (by decide)) ?_
      unfold paC
      rw [r, n, o, e1, oth paOwns (by decide), oth paWaits (by decide)]
      exact ⟨D.1, ⟨by omega, by omega⟩, D.2.2⟩

theorem Pa_setPlace_q5 {C : zC} {n0 : Nat} {a0 : Nat} {a1 : Int32} {a2 : Int32} {a3 : Int32} {κ : zS} {Q : zS → Prop} (W : zW C n0 κ) (Ta0 : zT κ a0 = 10)  (hp : paI κ a0) (h : ∀ (κ' : zS), ((paN κ κ' a0) ∧ f5_Pa_setPlace a1 a2 a3 (ab5 κ a0) = .inl (ab5 κ' a0, ())) → Q κ') : zRun C 1 mPa_setPlace [.ref a0, .int a1, .int a2, .int a3] κ (oV Q noX) := by
  refine Pa_setPlace_run W Ta0 ?_
  replace W := W.lo (Nat.le_trans W.1.2.1 W.1.2.2) (Nat.le_refl (zn κ))
  unfold w_Pa_setPlace_0
  have hE : f5_Pa_setPlace a1 a2 a3 (ab5 κ a0) = f5_Pa_setPlace a1 a2 a3 (ab5 κ a0) := rfl
  intro T1
  refine Co_setColumn_q5 W T1  ?_ (fun κ_2 q3 => ?_)
  · exact ⟨hp.2.1, by decide, by decide⟩  -- p1
  obtain ⟨q3, z9⟩ := q3
  replace hE := rb_i5 hE (z9 a0 (by first | exact Ta0 | exact paS_t S0 Ta0 | assumption) (by first | rfl | assumption))
  intro W4
  intro M5
  intro T6
  refine Co_setColumn_q5 W4 T6  ?_ (fun κ_7 q8 => ?_)
  · have f := (paN_c W Ta0 hp (q3.1.mono (fun _ _ z => z.2)) q3.2.1 (by rw [q3.2.2.1])).1
    exact ⟨f.2.1.2.1, by decide, by decide⟩
  obtain ⟨q8, z9⟩ := q8
  replace hE := rb_i5 hE (z9 a0 (q3.1.t Ta0 (by decide)) rfl)
  intro W9
  intro M10
  refine h _ ?_
  · refine and_5 ?_ (fun o9 => hE)  -- q3
    have f := (paN_c W Ta0 hp (q3.1.mono (fun _ _ z => z.2)) q3.2.1 (by rw [q3.2.2.1])).1
    have g := (paN_c W4 (q3.1.t Ta0 (by decide)) f.2.1 (q8.1.mono (fun _ _ z => z.2)) q8.2.1 (by rw [q8.2.2.1])).1
    exact f.tr g

end
